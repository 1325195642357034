theorem dX12_init_281 : decode cX12_init 281 = .ok (.bipush 122, 2) := by decide +kernel
theorem dX12_init_283 : decode cX12_init 283 = .ok (.newarray .int, 2) := by decide +kernel
theorem dX12_init_285 : decode cX12_init 285 = .ok (.putfield 114, 3) := by decide +kernel
theorem dX12_init_288 : decode cX12_init 288 = .ok (.aload_n 0, 1) := by decide +kernel
theorem dX12_init_289 : decode cX12_init 289 = .ok (.bipush 122, 2) := by decide +kernel
theorem dX12_init_291 : decode cX12_init 291 = .ok (.newarray .int, 2) := by decide +kernel
theorem dX12_init_293 : decode cX12_init 293 = .ok (.putfield 117, 3) := by decide +kernel
theorem dX12_init_296 : decode cX12_init 296 = .ok (.aload_n 0, 1) := by decide +kernel
theorem dX12_init_297 : decode cX12_init 297 = .ok (.bipush 60, 2) := by decide +kernel
theorem dX12_init_299 : decode cX12_init 299 = .ok (.newarray .int, 2) := by decide +kernel
theorem dX12_init_301 : decode cX12_init 301 = .ok (.putfield 120, 3) := by decide +kernel
theorem dX12_init_304 : decode cX12_init 304 = .ok (.aload_n 0, 1) := by decide +kernel
theorem dX12_init_305 : decode cX12_init 305 = .ok (.bipush 60, 2) := by decide +kernel
theorem dX12_init_307 : decode cX12_init 307 = .ok (.newarray .int, 2) := by decide +kernel
theorem dX12_init_309 : decode cX12_init 309 = .ok (.putfield 123, 3) := by decide +kernel
theorem dX12_init_312 : decode cX12_init 312 = .ok (.return_, 1) := by decide +kernel
theorem dX12_in_0 : decode cX12_in 0 = .ok (.lload_n 0, 1) := by decide +kernel
theorem dX12_in_1 : decode cX12_in 1 = .ok (.lload_n 2, 1) := by decide +kernel
theorem dX12_in_2 : decode cX12_in 2 = .ok (.lcmp, 1) := by decide +kernel
theorem dX12_in_3 : decode cX12_in 3 = .ok (.ifCond .lt 14, 3) := by decide +kernel
theorem dX12_in_6 : decode cX12_in 6 = .ok (.lload_n 0, 1) := by decide +kernel
theorem dX12_in_7 : decode cX12_in 7 = .ok (.lload 4, 2) := by decide +kernel
theorem dX12_in_9 : decode cX12_in 9 = .ok (.lcmp, 1) := by decide +kernel
theorem dX12_in_10 : decode cX12_in 10 = .ok (.ifCond .gt 7, 3) := by decide +kernel
theorem dX12_in_13 : decode cX12_in 13 = .ok (.iconst 1, 1) := by decide +kernel
theorem dX12_in_14 : decode cX12_in 14 = .ok (.goto 4, 3) := by decide +kernel
theorem dX12_in_17 : decode cX12_in 17 = .ok (.iconst 0, 1) := by decide +kernel
theorem dX12_in_18 : decode cX12_in 18 = .ok (.ireturn, 1) := by decide +kernel
theorem dX12_fails_0 : decode cX12_fails 0 = .ok (.aload_n 0, 1) := by decide +kernel
theorem dX12_fails_1 : decode cX12_fails 1 = .ok (.aload_n 0, 1) := by decide +kernel
theorem dX12_fails_2 : decode cX12_fails 2 = .ok (.getfield 126, 3) := by decide +kernel
theorem dX12_fails_5 : decode cX12_fails 5 = .ok (.ifCond .ne 7, 3) := by decide +kernel
theorem dX12_fails_8 : decode cX12_fails 8 = .ok (.iload_n 1, 1) := by decide +kernel
theorem dX12_fails_9 : decode cX12_fails 9 = .ok (.goto 7, 3) := by decide +kernel
theorem dX12_fails_12 : decode cX12_fails 12 = .ok (.aload_n 0, 1) := by decide +kernel
theorem dX12_fails_13 : decode cX12_fails 13 = .ok (.getfield 126, 3) := by decide +kernel
theorem dX12_fails_16 : decode cX12_fails 16 = .ok (.putfield 126, 3) := by decide +kernel
theorem dX12_fails_19 : decode cX12_fails 19 = .ok (.return_, 1) := by decide +kernel
theorem dX12_read_0 : decode cX12_read 0 = .ok (.lload_n 1, 1) := by decide +kernel
theorem dX12_read_1 : decode cX12_read 1 = .ok (.lconst 0, 1) := by decide +kernel
theorem dX12_read_2 : decode cX12_read 2 = .ok (.ldc2_w 129, 3) := by decide +kernel
theorem dX12_read_5 : decode cX12_read 5 = .ok (.invokestatic 131, 3) := by decide +kernel
theorem dX12_read_8 : decode cX12_read 8 = .ok (.ifCond .ne 10, 3) := by decide +kernel
theorem dX12_read_11 : decode cX12_read 11 = .ok (.aload_n 0, 1) := by decide +kernel
theorem dX12_read_12 : decode cX12_read 12 = .ok (.iconst 1, 1) := by decide +kernel
theorem dX12_read_13 : decode cX12_read 13 = .ok (.invokevirtual 135, 3) := by decide +kernel
theorem dX12_read_16 : decode cX12_read 16 = .ok (.iconst 0, 1) := by decide +kernel
theorem dX12_read_17 : decode cX12_read 17 = .ok (.ireturn, 1) := by decide +kernel
theorem dX12_read_18 : decode cX12_read 18 = .ok (.aload_n 0, 1) := by decide +kernel
theorem dX12_read_19 : decode cX12_read 19 = .ok (.getfield 7, 3) := by decide +kernel
theorem dX12_read_22 : decode cX12_read 22 = .ok (.lload_n 1, 1) := by decide +kernel
theorem dX12_read_23 : decode cX12_read 23 = .ok (.l2i, 1) := by decide +kernel
theorem dX12_read_24 : decode cX12_read 24 = .ok (.iaload, 1) := by decide +kernel
theorem dX12_read_25 : decode cX12_read 25 = .ok (.ireturn, 1) := by decide +kernel
theorem dX12_four_0 : decode cX12_four 0 = .ok (.iconst 0, 1) := by decide +kernel
theorem dX12_four_1 : decode cX12_four 1 = .ok (.istore_n 3, 1) := by decide +kernel
theorem dX12_four_2 : decode cX12_four 2 = .ok (.iconst 0, 1) := by decide +kernel
theorem dX12_four_3 : decode cX12_four 3 = .ok (.istore 4, 2) := by decide +kernel
theorem dX12_four_5 : decode cX12_four 5 = .ok (.iload 4, 2) := by decide +kernel
theorem dX12_four_7 : decode cX12_four 7 = .ok (.iconst 4, 1) := by decide +kernel
theorem dX12_four_8 : decode cX12_four 8 = .ok (.if_icmp .ge 24, 3) := by decide +kernel
theorem dX12_four_11 : decode cX12_four 11 = .ok (.iload_n 3, 1) := by decide +kernel
theorem dX12_four_12 : decode cX12_four 12 = .ok (.bipush 8, 2) := by decide +kernel
theorem dX12_four_14 : decode cX12_four 14 = .ok (.ishl, 1) := by decide +kernel
theorem dX12_four_15 : decode cX12_four 15 = .ok (.aload_n 0, 1) := by decide +kernel
theorem dX12_four_16 : decode cX12_four 16 = .ok (.lload_n 1, 1) := by decide +kernel
theorem dX12_four_17 : decode cX12_four 17 = .ok (.iload 4, 2) := by decide +kernel
theorem dX12_four_19 : decode cX12_four 19 = .ok (.i2l, 1) := by decide +kernel
theorem dX12_four_20 : decode cX12_four 20 = .ok (.ladd, 1) := by decide +kernel
theorem dX12_four_21 : decode cX12_four 21 = .ok (.invokevirtual 139, 3) := by decide +kernel
theorem dX12_four_24 : decode cX12_four 24 = .ok (.ior, 1) := by decide +kernel
theorem dX12_four_25 : decode cX12_four 25 = .ok (.istore_n 3, 1) := by decide +kernel
theorem dX12_four_26 : decode cX12_four 26 = .ok (.iinc 4 1, 3) := by decide +kernel
theorem dX12_four_29 : decode cX12_four 29 = .ok (.goto (-24), 3) := by decide +kernel
theorem dX12_four_32 : decode cX12_four 32 = .ok (.iload_n 3, 1) := by decide +kernel
theorem dX12_four_33 : decode cX12_four 33 = .ok (.ireturn, 1) := by decide +kernel
theorem dX12_tell_0 : decode cX12_tell 0 = .ok (.aload_n 0, 1) := by decide +kernel
theorem dX12_tell_1 : decode cX12_tell 1 = .ok (.getfield 7, 3) := by decide +kernel
theorem dX12_tell_4 : decode cX12_tell 4 = .ok (.iload_n 1, 1) := by decide +kernel
theorem dX12_tell_5 : decode cX12_tell 5 = .ok (.iload_n 2, 1) := by decide +kernel
theorem dX12_tell_6 : decode cX12_tell 6 = .ok (.sipush 255, 3) := by decide +kernel
theorem dX12_tell_9 : decode cX12_tell 9 = .ok (.iand, 1) := by decide +kernel
theorem dX12_tell_10 : decode cX12_tell 10 = .ok (.iastore, 1) := by decide +kernel
theorem dX12_tell_11 : decode cX12_tell 11 = .ok (.aload_n 0, 1) := by decide +kernel
theorem dX12_tell_12 : decode cX12_tell 12 = .ok (.getfield 143, 3) := by decide +kernel
theorem dX12_tell_15 : decode cX12_tell 15 = .ok (.ifCond .le 32, 3) := by decide +kernel
theorem dX12_tell_18 : decode cX12_tell 18 = .ok (.iload_n 1, 1) := by decide +kernel
theorem dX12_tell_19 : decode cX12_tell 19 = .ok (.aload_n 0, 1) := by decide +kernel
theorem dX12_tell_20 : decode cX12_tell 20 = .ok (.getfield 146, 3) := by decide +kernel
theorem dX12_tell_23 : decode cX12_tell 23 = .ok (.if_icmp .lt 24, 3) := by decide +kernel
theorem dX12_tell_26 : decode cX12_tell 26 = .ok (.iload_n 1, 1) := by decide +kernel
theorem dX12_tell_27 : decode cX12_tell 27 = .ok (.i2l, 1) := by decide +kernel
theorem dX12_tell_28 : decode cX12_tell 28 = .ok (.aload_n 0, 1) := by decide +kernel
theorem dX12_tell_29 : decode cX12_tell 29 = .ok (.getfield 146, 3) := by decide +kernel
theorem dX12_tell_32 : decode cX12_tell 32 = .ok (.i2l, 1) := by decide +kernel
theorem dX12_tell_33 : decode cX12_tell 33 = .ok (.aload_n 0, 1) := by decide +kernel
theorem dX12_tell_34 : decode cX12_tell 34 = .ok (.getfield 149, 3) := by decide +kernel
theorem dX12_tell_37 : decode cX12_tell 37 = .ok (.ladd, 1) := by decide +kernel
theorem dX12_tell_38 : decode cX12_tell 38 = .ok (.lcmp, 1) := by decide +kernel
theorem dX12_tell_39 : decode cX12_tell 39 = .ok (.ifCond .ge 8, 3) := by decide +kernel
theorem dX12_tell_42 : decode cX12_tell 42 = .ok (.aload_n 0, 1) := by decide +kernel
theorem dX12_tell_43 : decode cX12_tell 43 = .ok (.iconst 0, 1) := by decide +kernel
theorem dX12_tell_44 : decode cX12_tell 44 = .ok (.putfield 143, 3) := by decide +kernel
theorem dX12_tell_47 : decode cX12_tell 47 = .ok (.return_, 1) := by decide +kernel
theorem dX12_tellFour_0 : decode cX12_tellFour 0 = .ok (.iconst 0, 1) := by decide +kernel
theorem dX12_tellFour_1 : decode cX12_tellFour 1 = .ok (.istore_n 3, 1) := by decide +kernel
theorem dX12_tellFour_2 : decode cX12_tellFour 2 = .ok (.iload_n 3, 1) := by decide +kernel
theorem dX12_tellFour_3 : decode cX12_tellFour 3 = .ok (.iconst 4, 1) := by decide +kernel
theorem dX12_tellFour_4 : decode cX12_tellFour 4 = .ok (.if_icmp .ge 25, 3) := by decide +kernel
theorem dX12_tellFour_7 : decode cX12_tellFour 7 = .ok (.aload_n 0, 1) := by decide +kernel
theorem dX12_tellFour_8 : decode cX12_tellFour 8 = .ok (.iload_n 1, 1) := by decide +kernel
theorem dX12_tellFour_9 : decode cX12_tellFour 9 = .ok (.iload_n 3, 1) := by decide +kernel
theorem dX12_tellFour_10 : decode cX12_tellFour 10 = .ok (.iadd, 1) := by decide +kernel
theorem dX12_tellFour_11 : decode cX12_tellFour 11 = .ok (.iload_n 2, 1) := by decide +kernel
theorem dX12_tellFour_12 : decode cX12_tellFour 12 = .ok (.bipush 24, 2) := by decide +kernel
theorem dX12_tellFour_14 : decode cX12_tellFour 14 = .ok (.bipush 8, 2) := by decide +kernel
theorem dX12_tellFour_16 : decode cX12_tellFour 16 = .ok (.iload_n 3, 1) := by decide +kernel
theorem dX12_tellFour_17 : decode cX12_tellFour 17 = .ok (.imul, 1) := by decide +kernel
theorem dX12_tellFour_18 : decode cX12_tellFour 18 = .ok (.isub, 1) := by decide +kernel
theorem dX12_tellFour_19 : decode cX12_tellFour 19 = .ok (.ishr, 1) := by decide +kernel
theorem dX12_tellFour_20 : decode cX12_tellFour 20 = .ok (.invokevirtual 153, 3) := by decide +kernel
theorem dX12_tellFour_23 : decode cX12_tellFour 23 = .ok (.iinc 3 1, 3) := by decide +kernel
theorem dX12_tellFour_26 : decode cX12_tellFour 26 = .ok (.goto (-24), 3) := by decide +kernel
theorem dX12_tellFour_29 : decode cX12_tellFour 29 = .ok (.return_, 1) := by decide +kernel
theorem dX12_feed_0 : decode cX12_feed 0 = .ok (.iload_n 1, 1) := by decide +kernel
theorem dX12_feed_1 : decode cX12_feed 1 = .ok (.i2l, 1) := by decide +kernel
theorem dX12_feed_2 : decode cX12_feed 2 = .ok (.lconst 1, 1) := by decide +kernel
theorem dX12_feed_3 : decode cX12_feed 3 = .ok (.ldc2_w 157, 3) := by decide +kernel
theorem dX12_feed_6 : decode cX12_feed 6 = .ok (.invokestatic 131, 3) := by decide +kernel
theorem dX12_feed_9 : decode cX12_feed 9 = .ok (.ifCond .ne 6, 3) := by decide +kernel
theorem dX12_feed_12 : decode cX12_feed 12 = .ok (.bipush (-2), 2) := by decide +kernel
theorem dX12_feed_14 : decode cX12_feed 14 = .ok (.ireturn, 1) := by decide +kernel
theorem dX12_feed_15 : decode cX12_feed 15 = .ok (.aload_n 0, 1) := by decide +kernel
theorem dX12_feed_16 : decode cX12_feed 16 = .ok (.getfield 159, 3) := by decide +kernel
theorem dX12_feed_19 : decode cX12_feed 19 = .ok (.iload_n 1, 1) := by decide +kernel
theorem dX12_feed_20 : decode cX12_feed 20 = .ok (.iadd, 1) := by decide +kernel
theorem dX12_feed_21 : decode cX12_feed 21 = .ok (.sipush 600, 3) := by decide +kernel
theorem dX12_feed_24 : decode cX12_feed 24 = .ok (.if_icmp .le 6, 3) := by decide +kernel
theorem dX12_feed_27 : decode cX12_feed 27 = .ok (.bipush (-4), 2) := by decide +kernel
theorem dX12_feed_29 : decode cX12_feed 29 = .ok (.ireturn, 1) := by decide +kernel
theorem dX12_feed_30 : decode cX12_feed 30 = .ok (.iload_n 1, 1) := by decide +kernel
theorem dX12_feed_31 : decode cX12_feed 31 = .ok (.iconst 1, 1) := by decide +kernel
theorem dX12_feed_32 : decode cX12_feed 32 = .ok (.isub, 1) := by decide +kernel
theorem dX12_feed_33 : decode cX12_feed 33 = .ok (.istore 4, 2) := by decide +kernel
theorem dX12_feed_35 : decode cX12_feed 35 = .ok (.iload 4, 2) := by decide +kernel
theorem dX12_feed_37 : decode cX12_feed 37 = .ok (.ifCond .lt 40, 3) := by decide +kernel
theorem dX12_feed_40 : decode cX12_feed 40 = .ok (.aload_n 0, 1) := by decide +kernel
theorem dX12_feed_41 : decode cX12_feed 41 = .ok (.getfield 13, 3) := by decide +kernel
theorem dX12_feed_44 : decode cX12_feed 44 = .ok (.aload_n 0, 1) := by decide +kernel
theorem dX12_feed_45 : decode cX12_feed 45 = .ok (.getfield 159, 3) := by decide +kernel
theorem dX12_feed_48 : decode cX12_feed 48 = .ok (.lload_n 2, 1) := by decide +kernel
theorem dX12_feed_49 : decode cX12_feed 49 = .ok (.bipush 8, 2) := by decide +kernel
theorem dX12_feed_51 : decode cX12_feed 51 = .ok (.iload 4, 2) := by decide +kernel
theorem dX12_feed_53 : decode cX12_feed 53 = .ok (.imul, 1) := by decide +kernel
theorem dX12_feed_54 : decode cX12_feed 54 = .ok (.lshr, 1) := by decide +kernel
theorem dX12_feed_55 : decode cX12_feed 55 = .ok (.ldc2_w 162, 3) := by decide +kernel
theorem dX12_feed_58 : decode cX12_feed 58 = .ok (.land, 1) := by decide +kernel
theorem dX12_feed_59 : decode cX12_feed 59 = .ok (.l2i, 1) := by decide +kernel
theorem dX12_feed_60 : decode cX12_feed 60 = .ok (.iastore, 1) := by decide +kernel
theorem dX12_feed_61 : decode cX12_feed 61 = .ok (.aload_n 0, 1) := by decide +kernel
theorem dX12_feed_62 : decode cX12_feed 62 = .ok (.dup, 1) := by decide +kernel
theorem dX12_feed_63 : decode cX12_feed 63 = .ok (.getfield 159, 3) := by decide +kernel
theorem dX12_feed_66 : decode cX12_feed 66 = .ok (.iconst 1, 1) := by decide +kernel
theorem dX12_feed_67 : decode cX12_feed 67 = .ok (.iadd, 1) := by decide +kernel
theorem dX12_feed_68 : decode cX12_feed 68 = .ok (.putfield 159, 3) := by decide +kernel
theorem dX12_feed_71 : decode cX12_feed 71 = .ok (.iinc 4 (-1), 3) := by decide +kernel
theorem dX12_feed_74 : decode cX12_feed 74 = .ok (.goto (-39), 3) := by decide +kernel
theorem dX12_feed_77 : decode cX12_feed 77 = .ok (.aload_n 0, 1) := by decide +kernel
theorem dX12_feed_78 : decode cX12_feed 78 = .ok (.getfield 159, 3) := by decide +kernel
theorem dX12_feed_81 : decode cX12_feed 81 = .ok (.ireturn, 1) := by decide +kernel
theorem dX12_load_0 : decode cX12_load 0 = .ok (.aload_n 0, 1) := by decide +kernel
theorem dX12_load_1 : decode cX12_load 1 = .ok (.getfield 159, 3) := by decide +kernel
theorem dX12_load_4 : decode cX12_load 4 = .ok (.istore_n 2, 1) := by decide +kernel
theorem dX12_load_5 : decode cX12_load 5 = .ok (.aload_n 0, 1) := by decide +kernel
theorem dX12_load_6 : decode cX12_load 6 = .ok (.iconst 0, 1) := by decide +kernel
theorem dX12_load_7 : decode cX12_load 7 = .ok (.putfield 159, 3) := by decide +kernel
theorem dX12_load_10 : decode cX12_load 10 = .ok (.iload_n 1, 1) := by decide +kernel
theorem dX12_load_11 : decode cX12_load 11 = .ok (.ifCond .lt 15, 3) := by decide +kernel
theorem dX12_load_14 : decode cX12_load 14 = .ok (.iload_n 1, 1) := by decide +kernel
theorem dX12_load_15 : decode cX12_load 15 = .ok (.i2l, 1) := by decide +kernel
theorem dX12_load_16 : decode cX12_load 16 = .ok (.iload_n 2, 1) := by decide +kernel
theorem dX12_load_17 : decode cX12_load 17 = .ok (.i2l, 1) := by decide +kernel
theorem dX12_load_18 : decode cX12_load 18 = .ok (.ladd, 1) := by decide +kernel
theorem dX12_load_19 : decode cX12_load 19 = .ok (.ldc2_w 164, 3) := by decide +kernel
theorem dX12_load_22 : decode cX12_load 22 = .ok (.lcmp, 1) := by decide +kernel
theorem dX12_load_23 : decode cX12_load 23 = .ok (.ifCond .le 6, 3) := by decide +kernel
theorem dX12_load_26 : decode cX12_load 26 = .ok (.bipush (-2), 2) := by decide +kernel
theorem dX12_load_28 : decode cX12_load 28 = .ok (.ireturn, 1) := by decide +kernel
theorem dX12_load_29 : decode cX12_load 29 = .ok (.iconst 0, 1) := by decide +kernel
theorem dX12_load_30 : decode cX12_load 30 = .ok (.istore_n 3, 1) := by decide +kernel
theorem dX12_load_31 : decode cX12_load 31 = .ok (.iload_n 3, 1) := by decide +kernel
theorem dX12_load_32 : decode cX12_load 32 = .ok (.iload_n 2, 1) := by decide +kernel
theorem dX12_load_33 : decode cX12_load 33 = .ok (.if_icmp .ge 22, 3) := by decide +kernel
theorem dX12_load_36 : decode cX12_load 36 = .ok (.aload_n 0, 1) := by decide +kernel
theorem dX12_load_37 : decode cX12_load 37 = .ok (.iload_n 1, 1) := by decide +kernel
theorem dX12_load_38 : decode cX12_load 38 = .ok (.iload_n 3, 1) := by decide +kernel
theorem dX12_load_39 : decode cX12_load 39 = .ok (.iadd, 1) := by decide +kernel
theorem dX12_load_40 : decode cX12_load 40 = .ok (.aload_n 0, 1) := by decide +kernel
theorem dX12_load_41 : decode cX12_load 41 = .ok (.getfield 13, 3) := by decide +kernel
theorem dX12_load_44 : decode cX12_load 44 = .ok (.iload_n 3, 1) := by decide +kernel
theorem dX12_load_45 : decode cX12_load 45 = .ok (.iaload, 1) := by decide +kernel
theorem dX12_load_46 : decode cX12_load 46 = .ok (.invokevirtual 153, 3) := by decide +kernel
theorem dX12_load_49 : decode cX12_load 49 = .ok (.iinc 3 1, 3) := by decide +kernel
theorem dX12_load_52 : decode cX12_load 52 = .ok (.goto (-21), 3) := by decide +kernel
theorem dX12_load_55 : decode cX12_load 55 = .ok (.iload_n 2, 1) := by decide +kernel
theorem dX12_load_56 : decode cX12_load 56 = .ok (.ireturn, 1) := by decide +kernel
theorem dX12_border_0 : decode cX12_border 0 = .ok (.iload_n 1, 1) := by decide +kernel
theorem dX12_border_1 : decode cX12_border 1 = .ok (.i2l, 1) := by decide +kernel
theorem dX12_border_2 : decode cX12_border 2 = .ok (.lconst 0, 1) := by decide +kernel
theorem dX12_border_3 : decode cX12_border 3 = .ok (.ldc2_w 164, 3) := by decide +kernel
theorem dX12_border_6 : decode cX12_border 6 = .ok (.invokestatic 131, 3) := by decide +kernel
theorem dX12_border_9 : decode cX12_border 9 = .ok (.ifCond .ne 6, 3) := by decide +kernel
theorem dX12_border_12 : decode cX12_border 12 = .ok (.bipush (-2), 2) := by decide +kernel
theorem dX12_border_14 : decode cX12_border 14 = .ok (.ireturn, 1) := by decide +kernel
theorem dX12_border_15 : decode cX12_border 15 = .ok (.aload_n 0, 1) := by decide +kernel
theorem dX12_border_16 : decode cX12_border 16 = .ok (.getfield 166, 3) := by decide +kernel
theorem dX12_border_19 : decode cX12_border 19 = .ok (.istore_n 2, 1) := by decide +kernel
theorem dX12_border_20 : decode cX12_border 20 = .ok (.aload_n 0, 1) := by decide +kernel
theorem dX12_border_21 : decode cX12_border 21 = .ok (.iload_n 1, 1) := by decide +kernel
theorem dX12_border_22 : decode cX12_border 22 = .ok (.putfield 166, 3) := by decide +kernel
theorem dX12_border_25 : decode cX12_border 25 = .ok (.aload_n 0, 1) := by decide +kernel
theorem dX12_border_26 : decode cX12_border 26 = .ok (.iconst 0, 1) := by decide +kernel
theorem dX12_border_27 : decode cX12_border 27 = .ok (.putfield 143, 3) := by decide +kernel
theorem dX12_border_30 : decode cX12_border 30 = .ok (.iload_n 2, 1) := by decide +kernel
theorem dX12_border_31 : decode cX12_border 31 = .ok (.ireturn, 1) := by decide +kernel
theorem dX12_byteAt_0 : decode cX12_byteAt 0 = .ok (.iload_n 1, 1) := by decide +kernel
theorem dX12_byteAt_1 : decode cX12_byteAt 1 = .ok (.i2l, 1) := by decide +kernel
theorem dX12_byteAt_2 : decode cX12_byteAt 2 = .ok (.lconst 0, 1) := by decide +kernel
theorem dX12_byteAt_3 : decode cX12_byteAt 3 = .ok (.ldc2_w 129, 3) := by decide +kernel
theorem dX12_byteAt_6 : decode cX12_byteAt 6 = .ok (.invokestatic 131, 3) := by decide +kernel
theorem dX12_byteAt_9 : decode cX12_byteAt 9 = .ok (.ifCond .eq 12, 3) := by decide +kernel
theorem dX12_byteAt_12 : decode cX12_byteAt 12 = .ok (.aload_n 0, 1) := by decide +kernel
theorem dX12_byteAt_13 : decode cX12_byteAt 13 = .ok (.getfield 7, 3) := by decide +kernel
theorem dX12_byteAt_16 : decode cX12_byteAt 16 = .ok (.iload_n 1, 1) := by decide +kernel
theorem dX12_byteAt_17 : decode cX12_byteAt 17 = .ok (.iaload, 1) := by decide +kernel
theorem dX12_byteAt_18 : decode cX12_byteAt 18 = .ok (.goto 4, 3) := by decide +kernel
theorem dX12_byteAt_21 : decode cX12_byteAt 21 = .ok (.iconst (-1), 1) := by decide +kernel
theorem dX12_byteAt_22 : decode cX12_byteAt 22 = .ok (.ireturn, 1) := by decide +kernel
theorem dX12_lies_0 : decode cX12_lies 0 = .ok (.aload_n 0, 1) := by decide +kernel
theorem dX12_lies_1 : decode cX12_lies 1 = .ok (.iload_n 1, 1) := by decide +kernel
theorem dX12_lies_2 : decode cX12_lies 2 = .ok (.putfield 146, 3) := by decide +kernel
theorem dX12_lies_5 : decode cX12_lies 5 = .ok (.aload_n 0, 1) := by decide +kernel
theorem dX12_lies_6 : decode cX12_lies 6 = .ok (.iconst 0, 1) := by decide +kernel
theorem dX12_lies_7 : decode cX12_lies 7 = .ok (.putfield 143, 3) := by decide +kernel
theorem dX12_lies_10 : decode cX12_lies 10 = .ok (.iload_n 1, 1) := by decide +kernel
theorem dX12_lies_11 : decode cX12_lies 11 = .ok (.ifCond .le 18, 3) := by decide +kernel
theorem dX12_lies_14 : decode cX12_lies 14 = .ok (.iload_n 1, 1) := by decide +kernel
theorem dX12_lies_15 : decode cX12_lies 15 = .ok (.i2l, 1) := by decide +kernel
theorem dX12_lies_16 : decode cX12_lies 16 = .ok (.ldc2_w 169, 3) := by decide +kernel
theorem dX12_lies_19 : decode cX12_lies 19 = .ok (.ladd, 1) := by decide +kernel
theorem dX12_lies_20 : decode cX12_lies 20 = .ok (.aload_n 0, 1) := by decide +kernel
theorem dX12_lies_21 : decode cX12_lies 21 = .ok (.getfield 166, 3) := by decide +kernel
theorem dX12_lies_24 : decode cX12_lies 24 = .ok (.i2l, 1) := by decide +kernel
theorem dX12_lies_25 : decode cX12_lies 25 = .ok (.lcmp, 1) := by decide +kernel
theorem dX12_lies_26 : decode cX12_lies 26 = .ok (.ifCond .le 4, 3) := by decide +kernel
theorem dX12_lies_29 : decode cX12_lies 29 = .ok (.return_, 1) := by decide +kernel
theorem dX12_lies_30 : decode cX12_lies 30 = .ok (.aload_n 0, 1) := by decide +kernel
theorem dX12_lies_31 : decode cX12_lies 31 = .ok (.iload_n 1, 1) := by decide +kernel
theorem dX12_lies_32 : decode cX12_lies 32 = .ok (.i2l, 1) := by decide +kernel
theorem dX12_lies_33 : decode cX12_lies 33 = .ok (.invokevirtual 171, 3) := by decide +kernel
theorem dX12_lies_36 : decode cX12_lies 36 = .ok (.i2l, 1) := by decide +kernel
theorem dX12_lies_37 : decode cX12_lies 37 = .ok (.lstore_n 2, 1) := by decide +kernel
theorem dX12_lies_38 : decode cX12_lies 38 = .ok (.lload_n 2, 1) := by decide +kernel
theorem dX12_lies_39 : decode cX12_lies 39 = .ok (.ldc2_w 169, 3) := by decide +kernel
theorem dX12_lies_42 : decode cX12_lies 42 = .ok (.lcmp, 1) := by decide +kernel
theorem dX12_lies_43 : decode cX12_lies 43 = .ok (.ifCond .lt 16, 3) := by decide +kernel
theorem dX12_lies_46 : decode cX12_lies 46 = .ok (.iload_n 1, 1) := by decide +kernel
theorem dX12_lies_47 : decode cX12_lies 47 = .ok (.i2l, 1) := by decide +kernel
theorem dX12_lies_48 : decode cX12_lies 48 = .ok (.lload_n 2, 1) := by decide +kernel
theorem dX12_lies_49 : decode cX12_lies 49 = .ok (.ladd, 1) := by decide +kernel
theorem dX12_lies_50 : decode cX12_lies 50 = .ok (.aload_n 0, 1) := by decide +kernel
theorem dX12_lies_51 : decode cX12_lies 51 = .ok (.getfield 166, 3) := by decide +kernel
theorem dX12_lies_54 : decode cX12_lies 54 = .ok (.i2l, 1) := by decide +kernel
theorem dX12_lies_55 : decode cX12_lies 55 = .ok (.lcmp, 1) := by decide +kernel
theorem dX12_lies_56 : decode cX12_lies 56 = .ok (.ifCond .le 4, 3) := by decide +kernel
theorem dX12_lies_59 : decode cX12_lies 59 = .ok (.return_, 1) := by decide +kernel
theorem dX12_lies_60 : decode cX12_lies 60 = .ok (.aload_n 0, 1) := by decide +kernel
theorem dX12_lies_61 : decode cX12_lies 61 = .ok (.lload_n 2, 1) := by decide +kernel
theorem dX12_lies_62 : decode cX12_lies 62 = .ok (.putfield 149, 3) := by decide +kernel
theorem dX12_lies_65 : decode cX12_lies 65 = .ok (.iconst 0, 1) := by decide +kernel
theorem dX12_lies_66 : decode cX12_lies 66 = .ok (.istore 4, 2) := by decide +kernel
theorem dX12_lies_68 : decode cX12_lies 68 = .ok (.iload 4, 2) := by decide +kernel
theorem dX12_lies_70 : decode cX12_lies 70 = .ok (.sipush 4096, 3) := by decide +kernel
theorem dX12_lies_73 : decode cX12_lies 73 = .ok (.if_icmp .ge 17, 3) := by decide +kernel
theorem dX12_lies_76 : decode cX12_lies 76 = .ok (.aload_n 0, 1) := by decide +kernel
theorem dX12_lies_77 : decode cX12_lies 77 = .ok (.getfield 19, 3) := by decide +kernel
theorem dX12_lies_80 : decode cX12_lies 80 = .ok (.iload 4, 2) := by decide +kernel
theorem dX12_lies_82 : decode cX12_lies 82 = .ok (.iconst 0, 1) := by decide +kernel
theorem dX12_lies_83 : decode cX12_lies 83 = .ok (.bastore, 1) := by decide +kernel
theorem dX12_lies_84 : decode cX12_lies 84 = .ok (.iinc 4 1, 3) := by decide +kernel
theorem dX12_lies_87 : decode cX12_lies 87 = .ok (.goto (-19), 3) := by decide +kernel
theorem dX12_lies_90 : decode cX12_lies 90 = .ok (.iconst 1, 1) := by decide +kernel
theorem dX12_lies_91 : decode cX12_lies 91 = .ok (.istore 4, 2) := by decide +kernel
theorem dX12_lies_93 : decode cX12_lies 93 = .ok (.aload_n 0, 1) := by decide +kernel
theorem dX12_lies_94 : decode cX12_lies 94 = .ok (.getfield 23, 3) := by decide +kernel
theorem dX12_lies_97 : decode cX12_lies 97 = .ok (.iconst 0, 1) := by decide +kernel
theorem dX12_lies_98 : decode cX12_lies 98 = .ok (.aload_n 0, 1) := by decide +kernel
theorem dX12_lies_99 : decode cX12_lies 99 = .ok (.iload_n 1, 1) := by decide +kernel
theorem dX12_lies_100 : decode cX12_lies 100 = .ok (.i2l, 1) := by decide +kernel
theorem dX12_lies_101 : decode cX12_lies 101 = .ok (.ldc2_w 157, 3) := by decide +kernel
theorem dX12_lies_104 : decode cX12_lies 104 = .ok (.ladd, 1) := by decide +kernel
theorem dX12_lies_105 : decode cX12_lies 105 = .ok (.invokevirtual 171, 3) := by decide +kernel
theorem dX12_lies_108 : decode cX12_lies 108 = .ok (.iastore, 1) := by decide +kernel
theorem dX12_lies_109 : decode cX12_lies 109 = .ok (.iconst 0, 1) := by decide +kernel
theorem dX12_lies_110 : decode cX12_lies 110 = .ok (.istore 5, 2) := by decide +kernel
theorem dX12_lies_112 : decode cX12_lies 112 = .ok (.iload 4, 2) := by decide +kernel
theorem dX12_lies_114 : decode cX12_lies 114 = .ok (.ifCond .le 134, 3) := by decide +kernel
theorem dX12_lies_117 : decode cX12_lies 117 = .ok (.iinc 4 (-1), 3) := by decide +kernel
theorem dX12_lies_120 : decode cX12_lies 120 = .ok (.aload_n 0, 1) := by decide +kernel
theorem dX12_lies_121 : decode cX12_lies 121 = .ok (.getfield 23, 3) := by decide +kernel
theorem dX12_lies_124 : decode cX12_lies 124 = .ok (.iload 4, 2) := by decide +kernel
theorem dX12_lies_126 : decode cX12_lies 126 = .ok (.iaload, 1) := by decide +kernel
theorem dX12_lies_127 : decode cX12_lies 127 = .ok (.istore 6, 2) := by decide +kernel
theorem dX12_lies_129 : decode cX12_lies 129 = .ok (.iload 6, 2) := by decide +kernel
theorem dX12_lies_131 : decode cX12_lies 131 = .ok (.i2l, 1) := by decide +kernel
theorem dX12_lies_132 : decode cX12_lies 132 = .ok (.iload_n 1, 1) := by decide +kernel
theorem dX12_lies_133 : decode cX12_lies 133 = .ok (.i2l, 1) := by decide +kernel
theorem dX12_lies_134 : decode cX12_lies 134 = .ok (.iload_n 1, 1) := by decide +kernel
theorem dX12_lies_135 : decode cX12_lies 135 = .ok (.i2l, 1) := by decide +kernel
theorem dX12_lies_136 : decode cX12_lies 136 = .ok (.lload_n 2, 1) := by decide +kernel
theorem dX12_lies_137 : decode cX12_lies 137 = .ok (.ladd, 1) := by decide +kernel
theorem dX12_lies_138 : decode cX12_lies 138 = .ok (.lconst 1, 1) := by decide +kernel
theorem dX12_lies_139 : decode cX12_lies 139 = .ok (.lsub, 1) := by decide +kernel
theorem dX12_lies_140 : decode cX12_lies 140 = .ok (.invokestatic 131, 3) := by decide +kernel
theorem dX12_lies_143 : decode cX12_lies 143 = .ok (.ifCond .eq 102, 3) := by decide +kernel
theorem dX12_lies_146 : decode cX12_lies 146 = .ok (.aload_n 0, 1) := by decide +kernel
theorem dX12_lies_147 : decode cX12_lies 147 = .ok (.getfield 19, 3) := by decide +kernel
theorem dX12_lies_150 : decode cX12_lies 150 = .ok (.iload 6, 2) := by decide +kernel
theorem dX12_lies_152 : decode cX12_lies 152 = .ok (.baload, 1) := by decide +kernel
theorem dX12_lies_153 : decode cX12_lies 153 = .ok (.ifCond .ne 92, 3) := by decide +kernel
theorem dX12_lies_156 : decode cX12_lies 156 = .ok (.aload_n 0, 1) := by decide +kernel
theorem dX12_lies_157 : decode cX12_lies 157 = .ok (.getfield 19, 3) := by decide +kernel
theorem dX12_lies_160 : decode cX12_lies 160 = .ok (.iload 6, 2) := by decide +kernel
theorem dX12_lies_162 : decode cX12_lies 162 = .ok (.iconst 1, 1) := by decide +kernel
theorem dX12_lies_163 : decode cX12_lies 163 = .ok (.bastore, 1) := by decide +kernel
theorem dX12_lies_164 : decode cX12_lies 164 = .ok (.aload_n 0, 1) := by decide +kernel
theorem dX12_lies_165 : decode cX12_lies 165 = .ok (.iload 6, 2) := by decide +kernel
theorem dX12_lies_167 : decode cX12_lies 167 = .ok (.iload_n 1, 1) := by decide +kernel
theorem dX12_lies_168 : decode cX12_lies 168 = .ok (.i2l, 1) := by decide +kernel
theorem dX12_lies_169 : decode cX12_lies 169 = .ok (.lload_n 2, 1) := by decide +kernel
theorem dX12_lies_170 : decode cX12_lies 170 = .ok (.ladd, 1) := by decide +kernel
theorem dX12_lies_171 : decode cX12_lies 171 = .ok (.invokevirtual 174, 3) := by decide +kernel
theorem dX12_lies_174 : decode cX12_lies 174 = .ok (.lstore 7, 2) := by decide +kernel
theorem dX12_lies_176 : decode cX12_lies 176 = .ok (.lload 7, 2) := by decide +kernel
theorem dX12_lies_178 : decode cX12_lies 178 = .ok (.lconst 0, 1) := by decide +kernel
theorem dX12_lies_179 : decode cX12_lies 179 = .ok (.lcmp, 1) := by decide +kernel
theorem dX12_lies_180 : decode cX12_lies 180 = .ok (.ifCond .le 65, 3) := by decide +kernel
theorem dX12_lies_183 : decode cX12_lies 183 = .ok (.lload 7, 2) := by decide +kernel
theorem dX12_lies_185 : decode cX12_lies 185 = .ok (.iload_n 1, 1) := by decide +kernel
theorem dX12_lies_186 : decode cX12_lies 186 = .ok (.i2l, 1) := by decide +kernel
theorem dX12_lies_187 : decode cX12_lies 187 = .ok (.lload_n 2, 1) := by decide +kernel
theorem dX12_lies_188 : decode cX12_lies 188 = .ok (.ladd, 1) := by decide +kernel
theorem dX12_lies_189 : decode cX12_lies 189 = .ok (.lcmp, 1) := by decide +kernel
theorem dX12_lies_190 : decode cX12_lies 190 = .ok (.ifCond .gt 55, 3) := by decide +kernel
theorem dX12_lies_193 : decode cX12_lies 193 = .ok (.iinc 5 1, 3) := by decide +kernel
theorem dX12_lies_196 : decode cX12_lies 196 = .ok (.aload_n 0, 1) := by decide +kernel
theorem dX12_lies_197 : decode cX12_lies 197 = .ok (.getfield 7, 3) := by decide +kernel
theorem dX12_lies_200 : decode cX12_lies 200 = .ok (.iload 6, 2) := by decide +kernel
theorem dX12_lies_202 : decode cX12_lies 202 = .ok (.iaload, 1) := by decide +kernel
theorem dX12_lies_203 : decode cX12_lies 203 = .ok (.ifCond .ne 42, 3) := by decide +kernel
theorem dX12_lies_206 : decode cX12_lies 206 = .ok (.aload_n 0, 1) := by decide +kernel
theorem dX12_lies_207 : decode cX12_lies 207 = .ok (.getfield 23, 3) := by decide +kernel
theorem dX12_lies_210 : decode cX12_lies 210 = .ok (.iload 4, 2) := by decide +kernel
theorem dX12_lies_212 : decode cX12_lies 212 = .ok (.aload_n 0, 1) := by decide +kernel
theorem dX12_lies_213 : decode cX12_lies 213 = .ok (.iload 6, 2) := by decide +kernel
theorem dX12_lies_215 : decode cX12_lies 215 = .ok (.i2l, 1) := by decide +kernel
theorem dX12_lies_216 : decode cX12_lies 216 = .ok (.lconst 1, 1) := by decide +kernel
theorem dX12_lies_217 : decode cX12_lies 217 = .ok (.ladd, 1) := by decide +kernel
theorem dX12_lies_218 : decode cX12_lies 218 = .ok (.invokevirtual 171, 3) := by decide +kernel
theorem dX12_lies_221 : decode cX12_lies 221 = .ok (.iastore, 1) := by decide +kernel
theorem dX12_lies_222 : decode cX12_lies 222 = .ok (.aload_n 0, 1) := by decide +kernel
theorem dX12_lies_223 : decode cX12_lies 223 = .ok (.getfield 23, 3) := by decide +kernel
theorem dX12_lies_226 : decode cX12_lies 226 = .ok (.iload 4, 2) := by decide +kernel
theorem dX12_lies_228 : decode cX12_lies 228 = .ok (.iconst 1, 1) := by decide +kernel
theorem dX12_lies_229 : decode cX12_lies 229 = .ok (.iadd, 1) := by decide +kernel
theorem dX12_lies_230 : decode cX12_lies 230 = .ok (.aload_n 0, 1) := by decide +kernel
theorem dX12_lies_231 : decode cX12_lies 231 = .ok (.iload 6, 2) := by decide +kernel
theorem dX12_lies_233 : decode cX12_lies 233 = .ok (.i2l, 1) := by decide +kernel
theorem dX12_lies_234 : decode cX12_lies 234 = .ok (.ldc2_w 178, 3) := by decide +kernel
theorem dX12_lies_237 : decode cX12_lies 237 = .ok (.ladd, 1) := by decide +kernel
theorem dX12_lies_238 : decode cX12_lies 238 = .ok (.invokevirtual 171, 3) := by decide +kernel
theorem dX12_lies_241 : decode cX12_lies 241 = .ok (.iastore, 1) := by decide +kernel
theorem dX12_lies_242 : decode cX12_lies 242 = .ok (.iinc 4 2, 3) := by decide +kernel
theorem dX12_lies_245 : decode cX12_lies 245 = .ok (.goto (-133), 3) := by decide +kernel
theorem dX12_lies_248 : decode cX12_lies 248 = .ok (.aload_n 0, 1) := by decide +kernel
theorem dX12_lies_249 : decode cX12_lies 249 = .ok (.iload 5, 2) := by decide +kernel
theorem dX12_lies_251 : decode cX12_lies 251 = .ok (.putfield 143, 3) := by decide +kernel
theorem dX12_lies_254 : decode cX12_lies 254 = .ok (.return_, 1) := by decide +kernel
theorem dX12_endOf_0 : decode cX12_endOf 0 = .ok (.aload_n 0, 1) := by decide +kernel
theorem dX12_endOf_1 : decode cX12_endOf 1 = .ok (.getfield 7, 3) := by decide +kernel
theorem dX12_endOf_4 : decode cX12_endOf 4 = .ok (.iload_n 1, 1) := by decide +kernel
theorem dX12_endOf_5 : decode cX12_endOf 5 = .ok (.iaload, 1) := by decide +kernel
theorem dX12_endOf_6 : decode cX12_endOf 6 = .ok (.istore 4, 2) := by decide +kernel
theorem dX12_endOf_8 : decode cX12_endOf 8 = .ok (.iload_n 1, 1) := by decide +kernel
theorem dX12_endOf_9 : decode cX12_endOf 9 = .ok (.i2l, 1) := by decide +kernel
theorem dX12_endOf_10 : decode cX12_endOf 10 = .ok (.lconst 1, 1) := by decide +kernel
theorem dX12_endOf_11 : decode cX12_endOf 11 = .ok (.ladd, 1) := by decide +kernel
theorem dX12_endOf_12 : decode cX12_endOf 12 = .ok (.lstore 5, 2) := by decide +kernel
theorem dX12_endOf_14 : decode cX12_endOf 14 = .ok (.iload 4, 2) := by decide +kernel
theorem dX12_endOf_16 : decode cX12_endOf 16 = .ok (.iconst 3, 1) := by decide +kernel
theorem dX12_endOf_17 : decode cX12_endOf 17 = .ok (.if_icmp .ne 35, 3) := by decide +kernel
theorem dX12_endOf_20 : decode cX12_endOf 20 = .ok (.lload 5, 2) := by decide +kernel
theorem dX12_endOf_22 : decode cX12_endOf 22 = .ok (.lload_n 2, 1) := by decide +kernel
theorem dX12_endOf_23 : decode cX12_endOf 23 = .ok (.lcmp, 1) := by decide +kernel
theorem dX12_endOf_24 : decode cX12_endOf 24 = .ok (.ifCond .ge 23, 3) := by decide +kernel
theorem dX12_endOf_27 : decode cX12_endOf 27 = .ok (.aload_n 0, 1) := by decide +kernel
theorem dX12_endOf_28 : decode cX12_endOf 28 = .ok (.getfield 7, 3) := by decide +kernel
theorem dX12_endOf_31 : decode cX12_endOf 31 = .ok (.lload 5, 2) := by decide +kernel
theorem dX12_endOf_33 : decode cX12_endOf 33 = .ok (.l2i, 1) := by decide +kernel
theorem dX12_endOf_34 : decode cX12_endOf 34 = .ok (.iaload, 1) := by decide +kernel
theorem dX12_endOf_35 : decode cX12_endOf 35 = .ok (.ifCond .eq 12, 3) := by decide +kernel
theorem dX12_endOf_38 : decode cX12_endOf 38 = .ok (.lload 5, 2) := by decide +kernel
theorem dX12_endOf_40 : decode cX12_endOf 40 = .ok (.lconst 1, 1) := by decide +kernel
theorem dX12_endOf_41 : decode cX12_endOf 41 = .ok (.ladd, 1) := by decide +kernel
theorem dX12_endOf_42 : decode cX12_endOf 42 = .ok (.lstore 5, 2) := by decide +kernel
theorem dX12_endOf_44 : decode cX12_endOf 44 = .ok (.goto (-24), 3) := by decide +kernel
theorem dX12_endOf_47 : decode cX12_endOf 47 = .ok (.lload 5, 2) := by decide +kernel
theorem dX12_endOf_49 : decode cX12_endOf 49 = .ok (.lconst 1, 1) := by decide +kernel
theorem dX12_endOf_50 : decode cX12_endOf 50 = .ok (.ladd, 1) := by decide +kernel
theorem dX12_endOf_51 : decode cX12_endOf 51 = .ok (.lreturn, 1) := by decide +kernel
theorem dX12_endOf_52 : decode cX12_endOf 52 = .ok (.iload 4, 2) := by decide +kernel
theorem dX12_endOf_54 : decode cX12_endOf 54 = .ok (.iconst 5, 1) := by decide +kernel
theorem dX12_endOf_55 : decode cX12_endOf 55 = .ok (.if_icmp .ne 41, 3) := by decide +kernel
theorem dX12_endOf_58 : decode cX12_endOf 58 = .ok (.lload 5, 2) := by decide +kernel
theorem dX12_endOf_60 : decode cX12_endOf 60 = .ok (.ldc2_w 180, 3) := by decide +kernel
theorem dX12_endOf_63 : decode cX12_endOf 63 = .ok (.ladd, 1) := by decide +kernel
theorem dX12_endOf_64 : decode cX12_endOf 64 = .ok (.lload_n 2, 1) := by decide +kernel
theorem dX12_endOf_65 : decode cX12_endOf 65 = .ok (.lcmp, 1) := by decide +kernel
theorem dX12_endOf_66 : decode cX12_endOf 66 = .ok (.ifCond .gt 23, 3) := by decide +kernel
theorem dX12_endOf_69 : decode cX12_endOf 69 = .ok (.aload_n 0, 1) := by decide +kernel
theorem dX12_endOf_70 : decode cX12_endOf 70 = .ok (.lload 5, 2) := by decide +kernel
theorem dX12_endOf_72 : decode cX12_endOf 72 = .ok (.invokevirtual 171, 3) := by decide +kernel
theorem dX12_endOf_75 : decode cX12_endOf 75 = .ok (.ifCond .eq 14, 3) := by decide +kernel
theorem dX12_endOf_78 : decode cX12_endOf 78 = .ok (.lload 5, 2) := by decide +kernel
theorem dX12_endOf_80 : decode cX12_endOf 80 = .ok (.ldc2_w 180, 3) := by decide +kernel
theorem dX12_endOf_83 : decode cX12_endOf 83 = .ok (.ladd, 1) := by decide +kernel
theorem dX12_endOf_84 : decode cX12_endOf 84 = .ok (.lstore 5, 2) := by decide +kernel
theorem dX12_endOf_86 : decode cX12_endOf 86 = .ok (.goto (-28), 3) := by decide +kernel
theorem dX12_endOf_89 : decode cX12_endOf 89 = .ok (.lload 5, 2) := by decide +kernel
theorem dX12_endOf_91 : decode cX12_endOf 91 = .ok (.ldc2_w 180, 3) := by decide +kernel
theorem dX12_endOf_94 : decode cX12_endOf 94 = .ok (.ladd, 1) := by decide +kernel
theorem dX12_endOf_95 : decode cX12_endOf 95 = .ok (.lreturn, 1) := by decide +kernel
theorem dX12_endOf_96 : decode cX12_endOf 96 = .ok (.iload 4, 2) := by decide +kernel
theorem dX12_endOf_98 : decode cX12_endOf 98 = .ok (.bipush 10, 2) := by decide +kernel
theorem dX12_endOf_100 : decode cX12_endOf 100 = .ok (.if_icmp .eq 10, 3) := by decide +kernel
theorem dX12_endOf_103 : decode cX12_endOf 103 = .ok (.iload 4, 2) := by decide +kernel
theorem dX12_endOf_105 : decode cX12_endOf 105 = .ok (.bipush 11, 2) := by decide +kernel
theorem dX12_endOf_107 : decode cX12_endOf 107 = .ok (.if_icmp .ne 65, 3) := by decide +kernel
theorem dX12_endOf_110 : decode cX12_endOf 110 = .ok (.iload_n 1, 1) := by decide +kernel
theorem dX12_endOf_111 : decode cX12_endOf 111 = .ok (.i2l, 1) := by decide +kernel
theorem dX12_endOf_112 : decode cX12_endOf 112 = .ok (.ldc2_w 182, 3) := by decide +kernel
theorem dX12_endOf_115 : decode cX12_endOf 115 = .ok (.ladd, 1) := by decide +kernel
theorem dX12_endOf_116 : decode cX12_endOf 116 = .ok (.lload_n 2, 1) := by decide +kernel
theorem dX12_endOf_117 : decode cX12_endOf 117 = .ok (.lcmp, 1) := by decide +kernel
theorem dX12_endOf_118 : decode cX12_endOf 118 = .ok (.ifCond .le 10, 3) := by decide +kernel
theorem dX12_endOf_121 : decode cX12_endOf 121 = .ok (.iload_n 1, 1) := by decide +kernel
theorem dX12_endOf_122 : decode cX12_endOf 122 = .ok (.i2l, 1) := by decide +kernel
theorem dX12_endOf_123 : decode cX12_endOf 123 = .ok (.ldc2_w 182, 3) := by decide +kernel
theorem dX12_endOf_126 : decode cX12_endOf 126 = .ok (.ladd, 1) := by decide +kernel
theorem dX12_endOf_127 : decode cX12_endOf 127 = .ok (.lreturn, 1) := by decide +kernel
theorem dX12_endOf_128 : decode cX12_endOf 128 = .ok (.aload_n 0, 1) := by decide +kernel
theorem dX12_endOf_129 : decode cX12_endOf 129 = .ok (.iload_n 1, 1) := by decide +kernel
theorem dX12_endOf_130 : decode cX12_endOf 130 = .ok (.i2l, 1) := by decide +kernel
theorem dX12_endOf_131 : decode cX12_endOf 131 = .ok (.ldc2_w 178, 3) := by decide +kernel
theorem dX12_endOf_134 : decode cX12_endOf 134 = .ok (.ladd, 1) := by decide +kernel
theorem dX12_endOf_135 : decode cX12_endOf 135 = .ok (.invokevirtual 171, 3) := by decide +kernel
theorem dX12_endOf_138 : decode cX12_endOf 138 = .ok (.istore 7, 2) := by decide +kernel
theorem dX12_endOf_140 : decode cX12_endOf 140 = .ok (.iload_n 1, 1) := by decide +kernel
theorem dX12_endOf_141 : decode cX12_endOf 141 = .ok (.i2l, 1) := by decide +kernel
theorem dX12_endOf_142 : decode cX12_endOf 142 = .ok (.ldc2_w 182, 3) := by decide +kernel
theorem dX12_endOf_145 : decode cX12_endOf 145 = .ok (.ladd, 1) := by decide +kernel
theorem dX12_endOf_146 : decode cX12_endOf 146 = .ok (.iload 7, 2) := by decide +kernel
theorem dX12_endOf_148 : decode cX12_endOf 148 = .ok (.i2l, 1) := by decide +kernel
theorem dX12_endOf_149 : decode cX12_endOf 149 = .ok (.lconst 0, 1) := by decide +kernel
theorem dX12_endOf_150 : decode cX12_endOf 150 = .ok (.ldc2_w 180, 3) := by decide +kernel
theorem dX12_endOf_153 : decode cX12_endOf 153 = .ok (.invokestatic 131, 3) := by decide +kernel
theorem dX12_endOf_156 : decode cX12_endOf 156 = .ok (.ifCond .eq 13, 3) := by decide +kernel
theorem dX12_endOf_159 : decode cX12_endOf 159 = .ok (.ldc2_w 180, 3) := by decide +kernel
theorem dX12_endOf_162 : decode cX12_endOf 162 = .ok (.iload 7, 2) := by decide +kernel
theorem dX12_endOf_164 : decode cX12_endOf 164 = .ok (.i2l, 1) := by decide +kernel
theorem dX12_endOf_165 : decode cX12_endOf 165 = .ok (.lmul, 1) := by decide +kernel
theorem dX12_endOf_166 : decode cX12_endOf 166 = .ok (.goto 4, 3) := by decide +kernel
theorem dX12_endOf_169 : decode cX12_endOf 169 = .ok (.lconst 0, 1) := by decide +kernel
theorem dX12_endOf_170 : decode cX12_endOf 170 = .ok (.ladd, 1) := by decide +kernel
theorem dX12_endOf_171 : decode cX12_endOf 171 = .ok (.lreturn, 1) := by decide +kernel
theorem dX12_endOf_172 : decode cX12_endOf 172 = .ok (.iload 4, 2) := by decide +kernel
theorem dX12_endOf_174 : decode cX12_endOf 174 = .ok (.ifCond .ne 12, 3) := by decide +kernel
theorem dX12_endOf_177 : decode cX12_endOf 177 = .ok (.iload_n 1, 1) := by decide +kernel
theorem dX12_endOf_178 : decode cX12_endOf 178 = .ok (.i2l, 1) := by decide +kernel
theorem dX12_endOf_179 : decode cX12_endOf 179 = .ok (.ldc2_w 182, 3) := by decide +kernel
theorem dX12_endOf_182 : decode cX12_endOf 182 = .ok (.ladd, 1) := by decide +kernel
theorem dX12_endOf_183 : decode cX12_endOf 183 = .ok (.goto 59, 3) := by decide +kernel
theorem dX12_endOf_186 : decode cX12_endOf 186 = .ok (.iload 4, 2) := by decide +kernel
theorem dX12_endOf_188 : decode cX12_endOf 188 = .ok (.iconst 1, 1) := by decide +kernel
theorem dX12_endOf_189 : decode cX12_endOf 189 = .ok (.if_icmp .ne 8, 3) := by decide +kernel
theorem dX12_endOf_192 : decode cX12_endOf 192 = .ok (.lload 5, 2) := by decide +kernel
theorem dX12_endOf_194 : decode cX12_endOf 194 = .ok (.goto 48, 3) := by decide +kernel
theorem dX12_endOf_197 : decode cX12_endOf 197 = .ok (.iload 4, 2) := by decide +kernel
theorem dX12_endOf_199 : decode cX12_endOf 199 = .ok (.iconst 2, 1) := by decide +kernel
theorem dX12_endOf_200 : decode cX12_endOf 200 = .ok (.if_icmp .ne 10, 3) := by decide +kernel
theorem dX12_endOf_203 : decode cX12_endOf 203 = .ok (.lload 5, 2) := by decide +kernel
theorem dX12_endOf_205 : decode cX12_endOf 205 = .ok (.lconst 1, 1) := by decide +kernel
theorem dX12_endOf_206 : decode cX12_endOf 206 = .ok (.ladd, 1) := by decide +kernel
theorem dX12_endOf_207 : decode cX12_endOf 207 = .ok (.goto 35, 3) := by decide +kernel
theorem dX12_endOf_210 : decode cX12_endOf 210 = .ok (.iload 4, 2) := by decide +kernel
theorem dX12_endOf_212 : decode cX12_endOf 212 = .ok (.iconst 4, 1) := by decide +kernel
theorem dX12_endOf_213 : decode cX12_endOf 213 = .ok (.if_icmp .eq 17, 3) := by decide +kernel
theorem dX12_endOf_216 : decode cX12_endOf 216 = .ok (.iload 4, 2) := by decide +kernel
theorem dX12_endOf_218 : decode cX12_endOf 218 = .ok (.bipush 8, 2) := by decide +kernel
theorem dX12_endOf_220 : decode cX12_endOf 220 = .ok (.if_icmp .eq 10, 3) := by decide +kernel
theorem dX12_endOf_223 : decode cX12_endOf 223 = .ok (.iload 4, 2) := by decide +kernel
theorem dX12_endOf_225 : decode cX12_endOf 225 = .ok (.bipush 9, 2) := by decide +kernel
theorem dX12_endOf_227 : decode cX12_endOf 227 = .ok (.if_icmp .ne 12, 3) := by decide +kernel
theorem dX12_endOf_230 : decode cX12_endOf 230 = .ok (.iload_n 1, 1) := by decide +kernel
theorem dX12_endOf_231 : decode cX12_endOf 231 = .ok (.i2l, 1) := by decide +kernel
theorem dX12_endOf_232 : decode cX12_endOf 232 = .ok (.ldc2_w 178, 3) := by decide +kernel
theorem dX12_endOf_235 : decode cX12_endOf 235 = .ok (.ladd, 1) := by decide +kernel
theorem dX12_endOf_236 : decode cX12_endOf 236 = .ok (.goto 6, 3) := by decide +kernel
theorem dX12_endOf_239 : decode cX12_endOf 239 = .ok (.ldc2_w 184, 3) := by decide +kernel
theorem dX12_endOf_242 : decode cX12_endOf 242 = .ok (.lreturn, 1) := by decide +kernel
theorem dX12_table_0 : decode cX12_table 0 = .ok (.aload_n 0, 1) := by decide +kernel
theorem dX12_table_1 : decode cX12_table 1 = .ok (.getfield 186, 3) := by decide +kernel
theorem dX12_table_4 : decode cX12_table 4 = .ok (.ifCond .le 6, 3) := by decide +kernel
theorem dX12_table_7 : decode cX12_table 7 = .ok (.bipush (-3), 2) := by decide +kernel
theorem dX12_table_9 : decode cX12_table 9 = .ok (.ireturn, 1) := by decide +kernel
theorem dX12_table_10 : decode cX12_table 10 = .ok (.aload_n 0, 1) := by decide +kernel
theorem dX12_table_11 : decode cX12_table 11 = .ok (.iconst 0, 1) := by decide +kernel
theorem dX12_table_12 : decode cX12_table 12 = .ok (.putfield 126, 3) := by decide +kernel
theorem dX12_table_15 : decode cX12_table 15 = .ok (.aload_n 0, 1) := by decide +kernel
theorem dX12_table_16 : decode cX12_table 16 = .ok (.iload_n 1, 1) := by decide +kernel
theorem dX12_table_17 : decode cX12_table 17 = .ok (.invokevirtual 189, 3) := by decide +kernel
theorem dX12_table_20 : decode cX12_table 20 = .ok (.aload_n 0, 1) := by decide +kernel
theorem dX12_table_21 : decode cX12_table 21 = .ok (.getfield 143, 3) := by decide +kernel
theorem dX12_table_24 : decode cX12_table 24 = .ok (.ireturn, 1) := by decide +kernel
theorem dX12_system_0 : decode cX12_system 0 = .ok (.iload_n 1, 1) := by decide +kernel
theorem dX12_system_1 : decode cX12_system 1 = .ok (.i2l, 1) := by decide +kernel
theorem dX12_system_2 : decode cX12_system 2 = .ok (.lconst 0, 1) := by decide +kernel
theorem dX12_system_3 : decode cX12_system 3 = .ok (.ldc2_w 192, 3) := by decide +kernel
theorem dX12_system_6 : decode cX12_system 6 = .ok (.invokestatic 131, 3) := by decide +kernel
theorem dX12_system_9 : decode cX12_system 9 = .ok (.ifCond .ne 6, 3) := by decide +kernel
theorem dX12_system_12 : decode cX12_system 12 = .ok (.bipush (-2), 2) := by decide +kernel
theorem dX12_system_14 : decode cX12_system 14 = .ok (.ireturn, 1) := by decide +kernel
theorem dX12_system_15 : decode cX12_system 15 = .ok (.aload_n 0, 1) := by decide +kernel
theorem dX12_system_16 : decode cX12_system 16 = .ok (.getfield 186, 3) := by decide +kernel
theorem dX12_system_19 : decode cX12_system 19 = .ok (.ifCond .le 6, 3) := by decide +kernel
theorem dX12_system_22 : decode cX12_system 22 = .ok (.bipush (-3), 2) := by decide +kernel
theorem dX12_system_24 : decode cX12_system 24 = .ok (.ireturn, 1) := by decide +kernel
theorem dX12_system_25 : decode cX12_system 25 = .ok (.aload_n 0, 1) := by decide +kernel
theorem dX12_system_26 : decode cX12_system 26 = .ok (.iload_n 1, 1) := by decide +kernel
theorem dX12_system_27 : decode cX12_system 27 = .ok (.putfield 194, 3) := by decide +kernel
theorem dX12_system_30 : decode cX12_system 30 = .ok (.aload_n 0, 1) := by decide +kernel
theorem dX12_system_31 : decode cX12_system 31 = .ok (.iload_n 2, 1) := by decide +kernel
theorem dX12_system_32 : decode cX12_system 32 = .ok (.putfield 197, 3) := by decide +kernel
theorem dX12_system_35 : decode cX12_system 35 = .ok (.iconst 0, 1) := by decide +kernel
theorem dX12_system_36 : decode cX12_system 36 = .ok (.ireturn, 1) := by decide +kernel
theorem dX12_lays_0 : decode cX12_lays 0 = .ok (.aload_n 0, 1) := by decide +kernel
theorem dX12_lays_1 : decode cX12_lays 1 = .ok (.getfield 126, 3) := by decide +kernel
theorem dX12_lays_4 : decode cX12_lays 4 = .ok (.ifCond .ne 18, 3) := by decide +kernel
theorem dX12_lays_7 : decode cX12_lays 7 = .ok (.aload_n 0, 1) := by decide +kernel
theorem dX12_lays_8 : decode cX12_lays 8 = .ok (.getfield 186, 3) := by decide +kernel
theorem dX12_lays_11 : decode cX12_lays 11 = .ok (.bipush 40, 2) := by decide +kernel
theorem dX12_lays_13 : decode cX12_lays 13 = .ok (.if_icmp .ne 9, 3) := by decide +kernel
theorem dX12_lays_16 : decode cX12_lays 16 = .ok (.aload_n 0, 1) := by decide +kernel
theorem dX12_lays_17 : decode cX12_lays 17 = .ok (.bipush 8, 2) := by decide +kernel
theorem dX12_lays_19 : decode cX12_lays 19 = .ok (.invokevirtual 135, 3) := by decide +kernel
theorem dX12_lays_22 : decode cX12_lays 22 = .ok (.aload_n 0, 1) := by decide +kernel
theorem dX12_lays_23 : decode cX12_lays 23 = .ok (.getfield 126, 3) := by decide +kernel
theorem dX12_lays_26 : decode cX12_lays 26 = .ok (.ifCond .ne 111, 3) := by decide +kernel
theorem dX12_lays_29 : decode cX12_lays 29 = .ok (.aload_n 0, 1) := by decide +kernel
theorem dX12_lays_30 : decode cX12_lays 30 = .ok (.getfield 26, 3) := by decide +kernel
theorem dX12_lays_33 : decode cX12_lays 33 = .ok (.aload_n 0, 1) := by decide +kernel
theorem dX12_lays_34 : decode cX12_lays 34 = .ok (.getfield 186, 3) := by decide +kernel
theorem dX12_lays_37 : decode cX12_lays 37 = .ok (.iload_n 1, 1) := by decide +kernel
theorem dX12_lays_38 : decode cX12_lays 38 = .ok (.iastore, 1) := by decide +kernel
theorem dX12_lays_39 : decode cX12_lays 39 = .ok (.aload_n 0, 1) := by decide +kernel
theorem dX12_lays_40 : decode cX12_lays 40 = .ok (.getfield 29, 3) := by decide +kernel
theorem dX12_lays_43 : decode cX12_lays 43 = .ok (.aload_n 0, 1) := by decide +kernel
theorem dX12_lays_44 : decode cX12_lays 44 = .ok (.getfield 186, 3) := by decide +kernel
theorem dX12_lays_47 : decode cX12_lays 47 = .ok (.iload_n 2, 1) := by decide +kernel
theorem dX12_lays_48 : decode cX12_lays 48 = .ok (.iastore, 1) := by decide +kernel
theorem dX12_lays_49 : decode cX12_lays 49 = .ok (.aload_n 0, 1) := by decide +kernel
theorem dX12_lays_50 : decode cX12_lays 50 = .ok (.getfield 32, 3) := by decide +kernel
theorem dX12_lays_53 : decode cX12_lays 53 = .ok (.aload_n 0, 1) := by decide +kernel
theorem dX12_lays_54 : decode cX12_lays 54 = .ok (.getfield 186, 3) := by decide +kernel
theorem dX12_lays_57 : decode cX12_lays 57 = .ok (.iconst 0, 1) := by decide +kernel
theorem dX12_lays_58 : decode cX12_lays 58 = .ok (.iastore, 1) := by decide +kernel
theorem dX12_lays_59 : decode cX12_lays 59 = .ok (.aload_n 0, 1) := by decide +kernel
theorem dX12_lays_60 : decode cX12_lays 60 = .ok (.getfield 35, 3) := by decide +kernel
theorem dX12_lays_63 : decode cX12_lays 63 = .ok (.aload_n 0, 1) := by decide +kernel
theorem dX12_lays_64 : decode cX12_lays 64 = .ok (.getfield 186, 3) := by decide +kernel
theorem dX12_lays_67 : decode cX12_lays 67 = .ok (.iconst 0, 1) := by decide +kernel
theorem dX12_lays_68 : decode cX12_lays 68 = .ok (.iastore, 1) := by decide +kernel
theorem dX12_lays_69 : decode cX12_lays 69 = .ok (.aload_n 0, 1) := by decide +kernel
theorem dX12_lays_70 : decode cX12_lays 70 = .ok (.getfield 41, 3) := by decide +kernel
theorem dX12_lays_73 : decode cX12_lays 73 = .ok (.aload_n 0, 1) := by decide +kernel
theorem dX12_lays_74 : decode cX12_lays 74 = .ok (.getfield 186, 3) := by decide +kernel
theorem dX12_lays_77 : decode cX12_lays 77 = .ok (.iconst 1, 1) := by decide +kernel
theorem dX12_lays_78 : decode cX12_lays 78 = .ok (.bastore, 1) := by decide +kernel
theorem dX12_lays_79 : decode cX12_lays 79 = .ok (.aload_n 0, 1) := by decide +kernel
theorem dX12_lays_80 : decode cX12_lays 80 = .ok (.getfield 44, 3) := by decide +kernel
theorem dX12_lays_83 : decode cX12_lays 83 = .ok (.aload_n 0, 1) := by decide +kernel
theorem dX12_lays_84 : decode cX12_lays 84 = .ok (.getfield 186, 3) := by decide +kernel
theorem dX12_lays_87 : decode cX12_lays 87 = .ok (.iconst 0, 1) := by decide +kernel
theorem dX12_lays_88 : decode cX12_lays 88 = .ok (.iastore, 1) := by decide +kernel
theorem dX12_lays_89 : decode cX12_lays 89 = .ok (.aload_n 0, 1) := by decide +kernel
theorem dX12_lays_90 : decode cX12_lays 90 = .ok (.getfield 47, 3) := by decide +kernel
theorem dX12_lays_93 : decode cX12_lays 93 = .ok (.aload_n 0, 1) := by decide +kernel
theorem dX12_lays_94 : decode cX12_lays 94 = .ok (.getfield 186, 3) := by decide +kernel
theorem dX12_lays_97 : decode cX12_lays 97 = .ok (.sipush 255, 3) := by decide +kernel
theorem dX12_lays_100 : decode cX12_lays 100 = .ok (.iastore, 1) := by decide +kernel
theorem dX12_lays_101 : decode cX12_lays 101 = .ok (.aload_n 0, 1) := by decide +kernel
theorem dX12_lays_102 : decode cX12_lays 102 = .ok (.dup, 1) := by decide +kernel
theorem dX12_lays_103 : decode cX12_lays 103 = .ok (.getfield 186, 3) := by decide +kernel
theorem dX12_lays_106 : decode cX12_lays 106 = .ok (.iconst 1, 1) := by decide +kernel
theorem dX12_lays_107 : decode cX12_lays 107 = .ok (.iadd, 1) := by decide +kernel
theorem dX12_lays_108 : decode cX12_lays 108 = .ok (.putfield 186, 3) := by decide +kernel
theorem dX12_lays_111 : decode cX12_lays 111 = .ok (.aload_n 0, 1) := by decide +kernel
theorem dX12_lays_112 : decode cX12_lays 112 = .ok (.aload_n 0, 1) := by decide +kernel
theorem dX12_lays_113 : decode cX12_lays 113 = .ok (.getfield 186, 3) := by decide +kernel
theorem dX12_lays_116 : decode cX12_lays 116 = .ok (.aload_n 0, 1) := by decide +kernel
theorem dX12_lays_117 : decode cX12_lays 117 = .ok (.getfield 200, 3) := by decide +kernel
theorem dX12_lays_120 : decode cX12_lays 120 = .ok (.if_icmp .le 10, 3) := by decide +kernel
theorem dX12_lays_123 : decode cX12_lays 123 = .ok (.aload_n 0, 1) := by decide +kernel
theorem dX12_lays_124 : decode cX12_lays 124 = .ok (.getfield 186, 3) := by decide +kernel
theorem dX12_lays_127 : decode cX12_lays 127 = .ok (.goto 7, 3) := by decide +kernel
theorem dX12_lays_130 : decode cX12_lays 130 = .ok (.aload_n 0, 1) := by decide +kernel
theorem dX12_lays_131 : decode cX12_lays 131 = .ok (.getfield 200, 3) := by decide +kernel
theorem dX12_lays_134 : decode cX12_lays 134 = .ok (.putfield 200, 3) := by decide +kernel
theorem dX12_lays_137 : decode cX12_lays 137 = .ok (.return_, 1) := by decide +kernel
theorem dX12_isString_0 : decode cX12_isString 0 = .ok (.iload_n 0, 1) := by decide +kernel
theorem dX12_isString_1 : decode cX12_isString 1 = .ok (.sipush 224, 3) := by decide +kernel
theorem dX12_isString_4 : decode cX12_isString 4 = .ok (.if_icmp .lt 14, 3) := by decide +kernel
theorem dX12_isString_7 : decode cX12_isString 7 = .ok (.iload_n 0, 1) := by decide +kernel
theorem dX12_isString_8 : decode cX12_isString 8 = .ok (.sipush 226, 3) := by decide +kernel
theorem dX12_isString_11 : decode cX12_isString 11 = .ok (.if_icmp .gt 7, 3) := by decide +kernel
theorem dX12_isString_14 : decode cX12_isString 14 = .ok (.iconst 1, 1) := by decide +kernel
theorem dX12_isString_15 : decode cX12_isString 15 = .ok (.goto 4, 3) := by decide +kernel
theorem dX12_isString_18 : decode cX12_isString 18 = .ok (.iconst 0, 1) := by decide +kernel
theorem dX12_isString_19 : decode cX12_isString 19 = .ok (.ireturn, 1) := by decide +kernel
theorem dX12_prints_0 : decode cX12_prints 0 = .ok (.aload_n 0, 1) := by decide +kernel
theorem dX12_prints_1 : decode cX12_prints 1 = .ok (.iload_n 1, 1) := by decide +kernel
theorem dX12_prints_2 : decode cX12_prints 2 = .ok (.i2l, 1) := by decide +kernel
theorem dX12_prints_3 : decode cX12_prints 3 = .ok (.invokevirtual 139, 3) := by decide +kernel
theorem dX12_prints_6 : decode cX12_prints 6 = .ok (.istore_n 2, 1) := by decide +kernel
theorem dX12_prints_7 : decode cX12_prints 7 = .ok (.aload_n 0, 1) := by decide +kernel
theorem dX12_prints_8 : decode cX12_prints 8 = .ok (.getfield 126, 3) := by decide +kernel
theorem dX12_prints_11 : decode cX12_prints 11 = .ok (.ifCond .ne 15, 3) := by decide +kernel
theorem dX12_prints_14 : decode cX12_prints 14 = .ok (.iload_n 2, 1) := by decide +kernel
theorem dX12_prints_15 : decode cX12_prints 15 = .ok (.invokestatic 203, 3) := by decide +kernel
theorem dX12_prints_18 : decode cX12_prints 18 = .ok (.ifCond .ne 8, 3) := by decide +kernel
theorem dX12_prints_21 : decode cX12_prints 21 = .ok (.aload_n 0, 1) := by decide +kernel
theorem dX12_prints_22 : decode cX12_prints 22 = .ok (.iconst 4, 1) := by decide +kernel
theorem dX12_prints_23 : decode cX12_prints 23 = .ok (.invokevirtual 135, 3) := by decide +kernel
theorem dX12_prints_26 : decode cX12_prints 26 = .ok (.aload_n 0, 1) := by decide +kernel
theorem dX12_prints_27 : decode cX12_prints 27 = .ok (.iload_n 2, 1) := by decide +kernel
theorem dX12_prints_28 : decode cX12_prints 28 = .ok (.sipush 224, 3) := by decide +kernel
theorem dX12_prints_31 : decode cX12_prints 31 = .ok (.if_icmp .ne 7, 3) := by decide +kernel
theorem dX12_prints_34 : decode cX12_prints 34 = .ok (.iconst 1, 1) := by decide +kernel
theorem dX12_prints_35 : decode cX12_prints 35 = .ok (.goto 15, 3) := by decide +kernel
theorem dX12_prints_38 : decode cX12_prints 38 = .ok (.iload_n 2, 1) := by decide +kernel
theorem dX12_prints_39 : decode cX12_prints 39 = .ok (.sipush 226, 3) := by decide +kernel
theorem dX12_prints_42 : decode cX12_prints 42 = .ok (.if_icmp .ne 7, 3) := by decide +kernel
theorem dX12_prints_45 : decode cX12_prints 45 = .ok (.iconst 2, 1) := by decide +kernel
theorem dX12_prints_46 : decode cX12_prints 46 = .ok (.goto 4, 3) := by decide +kernel
theorem dX12_prints_49 : decode cX12_prints 49 = .ok (.iconst 3, 1) := by decide +kernel
theorem dX12_prints_50 : decode cX12_prints 50 = .ok (.iload_n 2, 1) := by decide +kernel
theorem dX12_prints_51 : decode cX12_prints 51 = .ok (.sipush 226, 3) := by decide +kernel
theorem dX12_prints_54 : decode cX12_prints 54 = .ok (.if_icmp .ne 9, 3) := by decide +kernel
theorem dX12_prints_57 : decode cX12_prints 57 = .ok (.iload_n 1, 1) := by decide +kernel
theorem dX12_prints_58 : decode cX12_prints 58 = .ok (.iconst 4, 1) := by decide +kernel
theorem dX12_prints_59 : decode cX12_prints 59 = .ok (.iadd, 1) := by decide +kernel
theorem dX12_prints_60 : decode cX12_prints 60 = .ok (.goto 6, 3) := by decide +kernel
theorem dX12_prints_63 : decode cX12_prints 63 = .ok (.iload_n 1, 1) := by decide +kernel
theorem dX12_prints_64 : decode cX12_prints 64 = .ok (.iconst 1, 1) := by decide +kernel
theorem dX12_prints_65 : decode cX12_prints 65 = .ok (.iadd, 1) := by decide +kernel
theorem dX12_prints_66 : decode cX12_prints 66 = .ok (.invokevirtual 207, 3) := by decide +kernel
theorem dX12_prints_69 : decode cX12_prints 69 = .ok (.return_, 1) := by decide +kernel
theorem dX12_called_0 : decode cX12_called 0 = .ok (.aload_n 0, 1) := by decide +kernel
theorem dX12_called_1 : decode cX12_called 1 = .ok (.iload_n 1, 1) := by decide +kernel
theorem dX12_called_2 : decode cX12_called 2 = .ok (.i2l, 1) := by decide +kernel
theorem dX12_called_3 : decode cX12_called 3 = .ok (.invokevirtual 139, 3) := by decide +kernel
theorem dX12_called_6 : decode cX12_called 6 = .ok (.istore 4, 2) := by decide +kernel
theorem dX12_called_8 : decode cX12_called 8 = .ok (.aload_n 0, 1) := by decide +kernel
theorem dX12_called_9 : decode cX12_called 9 = .ok (.getfield 126, 3) := by decide +kernel
theorem dX12_called_12 : decode cX12_called 12 = .ok (.ifCond .ne 24, 3) := by decide +kernel
theorem dX12_called_15 : decode cX12_called 15 = .ok (.iload 4, 2) := by decide +kernel
theorem dX12_called_17 : decode cX12_called 17 = .ok (.sipush 192, 3) := by decide +kernel
theorem dX12_called_20 : decode cX12_called 20 = .ok (.if_icmp .eq 16, 3) := by decide +kernel
theorem dX12_called_23 : decode cX12_called 23 = .ok (.iload 4, 2) := by decide +kernel
theorem dX12_called_25 : decode cX12_called 25 = .ok (.sipush 193, 3) := by decide +kernel
theorem dX12_called_28 : decode cX12_called 28 = .ok (.if_icmp .eq 8, 3) := by decide +kernel
theorem dX12_called_31 : decode cX12_called 31 = .ok (.aload_n 0, 1) := by decide +kernel
theorem dX12_called_32 : decode cX12_called 32 = .ok (.iconst 4, 1) := by decide +kernel
theorem dX12_called_33 : decode cX12_called 33 = .ok (.invokevirtual 135, 3) := by decide +kernel
theorem dX12_called_36 : decode cX12_called 36 = .ok (.aload_n 0, 1) := by decide +kernel
theorem dX12_called_37 : decode cX12_called 37 = .ok (.iload_n 1, 1) := by decide +kernel
theorem dX12_called_38 : decode cX12_called 38 = .ok (.i2l, 1) := by decide +kernel
theorem dX12_called_39 : decode cX12_called 39 = .ok (.lconst 1, 1) := by decide +kernel
theorem dX12_called_40 : decode cX12_called 40 = .ok (.ladd, 1) := by decide +kernel
theorem dX12_called_41 : decode cX12_called 41 = .ok (.invokevirtual 139, 3) := by decide +kernel
theorem dX12_called_44 : decode cX12_called 44 = .ok (.istore 5, 2) := by decide +kernel
theorem dX12_called_46 : decode cX12_called 46 = .ok (.aload_n 0, 1) := by decide +kernel
theorem dX12_called_47 : decode cX12_called 47 = .ok (.getfield 126, 3) := by decide +kernel
theorem dX12_called_50 : decode cX12_called 50 = .ok (.ifCond .ne 15, 3) := by decide +kernel
theorem dX12_called_53 : decode cX12_called 53 = .ok (.iload 5, 2) := by decide +kernel
theorem dX12_called_55 : decode cX12_called 55 = .ok (.bipush 8, 2) := by decide +kernel
theorem dX12_called_57 : decode cX12_called 57 = .ok (.if_icmp .le 8, 3) := by decide +kernel
theorem dX12_called_60 : decode cX12_called 60 = .ok (.aload_n 0, 1) := by decide +kernel
theorem dX12_called_61 : decode cX12_called 61 = .ok (.iconst 4, 1) := by decide +kernel
theorem dX12_called_62 : decode cX12_called 62 = .ok (.invokevirtual 135, 3) := by decide +kernel
theorem dX12_called_65 : decode cX12_called 65 = .ok (.aload_n 0, 1) := by decide +kernel
theorem dX12_called_66 : decode cX12_called 66 = .ok (.iconst 0, 1) := by decide +kernel
theorem dX12_called_67 : decode cX12_called 67 = .ok (.iload_n 1, 1) := by decide +kernel
theorem dX12_called_68 : decode cX12_called 68 = .ok (.iconst 2, 1) := by decide +kernel
theorem dX12_called_69 : decode cX12_called 69 = .ok (.iadd, 1) := by decide +kernel
theorem dX12_called_70 : decode cX12_called 70 = .ok (.invokevirtual 207, 3) := by decide +kernel
theorem dX12_called_73 : decode cX12_called 73 = .ok (.aload_n 0, 1) := by decide +kernel
theorem dX12_called_74 : decode cX12_called 74 = .ok (.getfield 126, 3) := by decide +kernel
theorem dX12_called_77 : decode cX12_called 77 = .ok (.ifCond .le 4, 3) := by decide +kernel
theorem dX12_called_80 : decode cX12_called 80 = .ok (.return_, 1) := by decide +kernel
theorem dX12_called_81 : decode cX12_called 81 = .ok (.aload_n 0, 1) := by decide +kernel
theorem dX12_called_82 : decode cX12_called 82 = .ok (.getfield 186, 3) := by decide +kernel
theorem dX12_called_85 : decode cX12_called 85 = .ok (.iconst 1, 1) := by decide +kernel
theorem dX12_called_86 : decode cX12_called 86 = .ok (.isub, 1) := by decide +kernel
theorem dX12_called_87 : decode cX12_called 87 = .ok (.istore 6, 2) := by decide +kernel
theorem dX12_called_89 : decode cX12_called 89 = .ok (.aload_n 0, 1) := by decide +kernel
theorem dX12_called_90 : decode cX12_called 90 = .ok (.getfield 47, 3) := by decide +kernel
theorem dX12_called_93 : decode cX12_called 93 = .ok (.iload 6, 2) := by decide +kernel
theorem dX12_called_95 : decode cX12_called 95 = .ok (.iload_n 3, 1) := by decide +kernel
theorem dX12_called_96 : decode cX12_called 96 = .ok (.iastore, 1) := by decide +kernel
theorem dX12_called_97 : decode cX12_called 97 = .ok (.aload_n 0, 1) := by decide +kernel
theorem dX12_called_98 : decode cX12_called 98 = .ok (.getfield 35, 3) := by decide +kernel
theorem dX12_called_101 : decode cX12_called 101 = .ok (.iload 6, 2) := by decide +kernel
theorem dX12_called_103 : decode cX12_called 103 = .ok (.iload 5, 2) := by decide +kernel
theorem dX12_called_105 : decode cX12_called 105 = .ok (.iastore, 1) := by decide +kernel
theorem dX12_called_106 : decode cX12_called 106 = .ok (.iconst 0, 1) := by decide +kernel
theorem dX12_called_107 : decode cX12_called 107 = .ok (.istore 7, 2) := by decide +kernel
theorem dX12_called_109 : decode cX12_called 109 = .ok (.iload 7, 2) := by decide +kernel
theorem dX12_called_111 : decode cX12_called 111 = .ok (.bipush 8, 2) := by decide +kernel
theorem dX12_called_113 : decode cX12_called 113 = .ok (.if_icmp .ge 23, 3) := by decide +kernel
theorem dX12_called_116 : decode cX12_called 116 = .ok (.aload_n 0, 1) := by decide +kernel
theorem dX12_called_117 : decode cX12_called 117 = .ok (.getfield 38, 3) := by decide +kernel
theorem dX12_called_120 : decode cX12_called 120 = .ok (.bipush 8, 2) := by decide +kernel
theorem dX12_called_122 : decode cX12_called 122 = .ok (.iload 6, 2) := by decide +kernel
theorem dX12_called_124 : decode cX12_called 124 = .ok (.imul, 1) := by decide +kernel
theorem dX12_called_125 : decode cX12_called 125 = .ok (.iload 7, 2) := by decide +kernel
theorem dX12_called_127 : decode cX12_called 127 = .ok (.iadd, 1) := by decide +kernel
theorem dX12_called_128 : decode cX12_called 128 = .ok (.iconst 0, 1) := by decide +kernel
theorem dX12_called_129 : decode cX12_called 129 = .ok (.iastore, 1) := by decide +kernel
theorem dX12_called_130 : decode cX12_called 130 = .ok (.iinc 7 1, 3) := by decide +kernel
theorem dX12_called_133 : decode cX12_called 133 = .ok (.goto (-24), 3) := by decide +kernel
theorem dX12_called_136 : decode cX12_called 136 = .ok (.iload 4, 2) := by decide +kernel
theorem dX12_called_138 : decode cX12_called 138 = .ok (.sipush 192, 3) := by decide +kernel
theorem dX12_called_141 : decode cX12_called 141 = .ok (.if_icmp .ne 7, 3) := by decide +kernel
theorem dX12_called_144 : decode cX12_called 144 = .ok (.iconst 1, 1) := by decide +kernel
theorem dX12_called_145 : decode cX12_called 145 = .ok (.goto 4, 3) := by decide +kernel
theorem dX12_called_148 : decode cX12_called 148 = .ok (.iconst 0, 1) := by decide +kernel
theorem dX12_called_149 : decode cX12_called 149 = .ok (.istore 7, 2) := by decide +kernel
theorem dX12_called_151 : decode cX12_called 151 = .ok (.iload 4, 2) := by decide +kernel
theorem dX12_called_153 : decode cX12_called 153 = .ok (.sipush 192, 3) := by decide +kernel
theorem dX12_called_156 : decode cX12_called 156 = .ok (.if_icmp .ne 19, 3) := by decide +kernel
theorem dX12_called_159 : decode cX12_called 159 = .ok (.iload 5, 2) := by decide +kernel
theorem dX12_called_161 : decode cX12_called 161 = .ok (.ifCond .le 14, 3) := by decide +kernel
theorem dX12_called_164 : decode cX12_called 164 = .ok (.aload_n 0, 1) := by decide +kernel
theorem dX12_called_165 : decode cX12_called 165 = .ok (.getfield 38, 3) := by decide +kernel
theorem dX12_called_168 : decode cX12_called 168 = .ok (.bipush 8, 2) := by decide +kernel
theorem dX12_called_170 : decode cX12_called 170 = .ok (.iload 6, 2) := by decide +kernel
theorem dX12_called_172 : decode cX12_called 172 = .ok (.imul, 1) := by decide +kernel
theorem dX12_called_173 : decode cX12_called 173 = .ok (.iload_n 2, 1) := by decide +kernel
theorem dX12_called_174 : decode cX12_called 174 = .ok (.iastore, 1) := by decide +kernel
theorem dX12_called_175 : decode cX12_called 175 = .ok (.iconst 0, 1) := by decide +kernel
theorem dX12_called_176 : decode cX12_called 176 = .ok (.istore 8, 2) := by decide +kernel
theorem dX12_called_178 : decode cX12_called 178 = .ok (.iload 8, 2) := by decide +kernel
theorem dX12_called_180 : decode cX12_called 180 = .ok (.iload_n 2, 1) := by decide +kernel
theorem dX12_called_181 : decode cX12_called 181 = .ok (.if_icmp .ge 42, 3) := by decide +kernel
theorem dX12_called_184 : decode cX12_called 184 = .ok (.iload 8, 2) := by decide +kernel
theorem dX12_called_186 : decode cX12_called 186 = .ok (.iload 7, 2) := by decide +kernel
theorem dX12_called_188 : decode cX12_called 188 = .ok (.iadd, 1) := by decide +kernel
theorem dX12_called_189 : decode cX12_called 189 = .ok (.iload 5, 2) := by decide +kernel
theorem dX12_called_191 : decode cX12_called 191 = .ok (.if_icmp .ge 32, 3) := by decide +kernel
theorem dX12_called_194 : decode cX12_called 194 = .ok (.aload_n 0, 1) := by decide +kernel
theorem dX12_called_195 : decode cX12_called 195 = .ok (.getfield 38, 3) := by decide +kernel
theorem dX12_called_198 : decode cX12_called 198 = .ok (.bipush 8, 2) := by decide +kernel
theorem dX12_called_200 : decode cX12_called 200 = .ok (.iload 6, 2) := by decide +kernel
theorem dX12_called_202 : decode cX12_called 202 = .ok (.imul, 1) := by decide +kernel
theorem dX12_called_203 : decode cX12_called 203 = .ok (.iload 8, 2) := by decide +kernel
theorem dX12_called_205 : decode cX12_called 205 = .ok (.iadd, 1) := by decide +kernel
theorem dX12_called_206 : decode cX12_called 206 = .ok (.iload 7, 2) := by decide +kernel
theorem dX12_called_208 : decode cX12_called 208 = .ok (.iadd, 1) := by decide +kernel
theorem dX12_called_209 : decode cX12_called 209 = .ok (.aload_n 0, 1) := by decide +kernel
theorem dX12_called_210 : decode cX12_called 210 = .ok (.getfield 53, 3) := by decide +kernel
theorem dX12_called_213 : decode cX12_called 213 = .ok (.iload 8, 2) := by decide +kernel
theorem dX12_called_215 : decode cX12_called 215 = .ok (.iaload, 1) := by decide +kernel
theorem dX12_called_216 : decode cX12_called 216 = .ok (.iastore, 1) := by decide +kernel
theorem dX12_called_217 : decode cX12_called 217 = .ok (.iinc 8 1, 3) := by decide +kernel
theorem dX12_called_220 : decode cX12_called 220 = .ok (.goto (-42), 3) := by decide +kernel
theorem dX12_called_223 : decode cX12_called 223 = .ok (.return_, 1) := by decide +kernel
theorem dX12_gives_0 : decode cX12_gives 0 = .ok (.aload_n 0, 1) := by decide +kernel
theorem dX12_gives_1 : decode cX12_gives 1 = .ok (.getfield 126, 3) := by decide +kernel
theorem dX12_gives_4 : decode cX12_gives 4 = .ok (.ifCond .le 4, 3) := by decide +kernel
theorem dX12_gives_7 : decode cX12_gives 7 = .ok (.return_, 1) := by decide +kernel
theorem dX12_gives_8 : decode cX12_gives 8 = .ok (.aload_n 0, 1) := by decide +kernel
theorem dX12_gives_9 : decode cX12_gives 9 = .ok (.getfield 194, 3) := by decide +kernel
theorem dX12_gives_12 : decode cX12_gives 12 = .ok (.iconst 2, 1) := by decide +kernel
theorem dX12_gives_13 : decode cX12_gives 13 = .ok (.if_icmp .ne 55, 3) := by decide +kernel
theorem dX12_gives_16 : decode cX12_gives 16 = .ok (.aload_n 0, 1) := by decide +kernel
theorem dX12_gives_17 : decode cX12_gives 17 = .ok (.getfield 210, 3) := by decide +kernel
theorem dX12_gives_20 : decode cX12_gives 20 = .ok (.sipush 1000, 3) := by decide +kernel
theorem dX12_gives_23 : decode cX12_gives 23 = .ok (.if_icmp .ne 12, 3) := by decide +kernel
theorem dX12_gives_26 : decode cX12_gives 26 = .ok (.aload_n 0, 1) := by decide +kernel
theorem dX12_gives_27 : decode cX12_gives 27 = .ok (.bipush 9, 2) := by decide +kernel
theorem dX12_gives_29 : decode cX12_gives 29 = .ok (.invokevirtual 135, 3) := by decide +kernel
theorem dX12_gives_32 : decode cX12_gives 32 = .ok (.goto 97, 3) := by decide +kernel
theorem dX12_gives_35 : decode cX12_gives 35 = .ok (.aload_n 0, 1) := by decide +kernel
theorem dX12_gives_36 : decode cX12_gives 36 = .ok (.getfield 50, 3) := by decide +kernel
theorem dX12_gives_39 : decode cX12_gives 39 = .ok (.aload_n 0, 1) := by decide +kernel
theorem dX12_gives_40 : decode cX12_gives 40 = .ok (.getfield 210, 3) := by decide +kernel
theorem dX12_gives_43 : decode cX12_gives 43 = .ok (.iload_n 1, 1) := by decide +kernel
theorem dX12_gives_44 : decode cX12_gives 44 = .ok (.iastore, 1) := by decide +kernel
theorem dX12_gives_45 : decode cX12_gives 45 = .ok (.aload_n 0, 1) := by decide +kernel
theorem dX12_gives_46 : decode cX12_gives 46 = .ok (.dup, 1) := by decide +kernel
theorem dX12_gives_47 : decode cX12_gives 47 = .ok (.getfield 210, 3) := by decide +kernel
theorem dX12_gives_50 : decode cX12_gives 50 = .ok (.iconst 1, 1) := by decide +kernel
theorem dX12_gives_51 : decode cX12_gives 51 = .ok (.iadd, 1) := by decide +kernel
theorem dX12_gives_52 : decode cX12_gives 52 = .ok (.putfield 210, 3) := by decide +kernel
theorem dX12_gives_55 : decode cX12_gives 55 = .ok (.aload_n 0, 1) := by decide +kernel
theorem dX12_gives_56 : decode cX12_gives 56 = .ok (.dup, 1) := by decide +kernel
theorem dX12_gives_57 : decode cX12_gives 57 = .ok (.getfield 213, 3) := by decide +kernel
theorem dX12_gives_60 : decode cX12_gives 60 = .ok (.iconst 1, 1) := by decide +kernel
theorem dX12_gives_61 : decode cX12_gives 61 = .ok (.iadd, 1) := by decide +kernel
theorem dX12_gives_62 : decode cX12_gives 62 = .ok (.putfield 213, 3) := by decide +kernel
theorem dX12_gives_65 : decode cX12_gives 65 = .ok (.goto 64, 3) := by decide +kernel
theorem dX12_gives_68 : decode cX12_gives 68 = .ok (.aload_n 0, 1) := by decide +kernel
theorem dX12_gives_69 : decode cX12_gives 69 = .ok (.getfield 194, 3) := by decide +kernel
theorem dX12_gives_72 : decode cX12_gives 72 = .ok (.iconst 1, 1) := by decide +kernel
theorem dX12_gives_73 : decode cX12_gives 73 = .ok (.if_icmp .ne 46, 3) := by decide +kernel
theorem dX12_gives_76 : decode cX12_gives 76 = .ok (.aload_n 0, 1) := by decide +kernel
theorem dX12_gives_77 : decode cX12_gives 77 = .ok (.getfield 53, 3) := by decide +kernel
theorem dX12_gives_80 : decode cX12_gives 80 = .ok (.iconst 0, 1) := by decide +kernel
theorem dX12_gives_81 : decode cX12_gives 81 = .ok (.iload_n 1, 1) := by decide +kernel
theorem dX12_gives_82 : decode cX12_gives 82 = .ok (.iastore, 1) := by decide +kernel
theorem dX12_gives_83 : decode cX12_gives 83 = .ok (.aload_n 0, 1) := by decide +kernel
theorem dX12_gives_84 : decode cX12_gives 84 = .ok (.aload_n 0, 1) := by decide +kernel
theorem dX12_gives_85 : decode cX12_gives 85 = .ok (.getfield 197, 3) := by decide +kernel
theorem dX12_gives_88 : decode cX12_gives 88 = .ok (.iconst 1, 1) := by decide +kernel
theorem dX12_gives_89 : decode cX12_gives 89 = .ok (.sipush 255, 3) := by decide +kernel
theorem dX12_gives_92 : decode cX12_gives 92 = .ok (.invokevirtual 216, 3) := by decide +kernel
theorem dX12_gives_95 : decode cX12_gives 95 = .ok (.aload_n 0, 1) := by decide +kernel
theorem dX12_gives_96 : decode cX12_gives 96 = .ok (.dup, 1) := by decide +kernel
theorem dX12_gives_97 : decode cX12_gives 97 = .ok (.getfield 220, 3) := by decide +kernel
theorem dX12_gives_100 : decode cX12_gives 100 = .ok (.aload_n 0, 1) := by decide +kernel
theorem dX12_gives_101 : decode cX12_gives 101 = .ok (.getfield 126, 3) := by decide +kernel
theorem dX12_gives_104 : decode cX12_gives 104 = .ok (.ifCond .ne 7, 3) := by decide +kernel
theorem dX12_gives_107 : decode cX12_gives 107 = .ok (.iconst 1, 1) := by decide +kernel
theorem dX12_gives_108 : decode cX12_gives 108 = .ok (.goto 4, 3) := by decide +kernel
theorem dX12_gives_111 : decode cX12_gives 111 = .ok (.iconst 0, 1) := by decide +kernel
theorem dX12_gives_112 : decode cX12_gives 112 = .ok (.iadd, 1) := by decide +kernel
theorem dX12_gives_113 : decode cX12_gives 113 = .ok (.putfield 220, 3) := by decide +kernel
theorem dX12_gives_116 : decode cX12_gives 116 = .ok (.goto 13, 3) := by decide +kernel
theorem dX12_gives_119 : decode cX12_gives 119 = .ok (.aload_n 0, 1) := by decide +kernel
theorem dX12_gives_120 : decode cX12_gives 120 = .ok (.dup, 1) := by decide +kernel
theorem dX12_gives_121 : decode cX12_gives 121 = .ok (.getfield 223, 3) := by decide +kernel
theorem dX12_gives_124 : decode cX12_gives 124 = .ok (.iconst 1, 1) := by decide +kernel
theorem dX12_gives_125 : decode cX12_gives 125 = .ok (.iadd, 1) := by decide +kernel
theorem dX12_gives_126 : decode cX12_gives 126 = .ok (.putfield 223, 3) := by decide +kernel
theorem dX12_gives_129 : decode cX12_gives 129 = .ok (.return_, 1) := by decide +kernel
theorem dX12_step_0 : decode cX12_step 0 = .ok (.aload_n 0, 1) := by decide +kernel
theorem dX12_step_1 : decode cX12_step 1 = .ok (.getfield 186, 3) := by decide +kernel
theorem dX12_step_4 : decode cX12_step 4 = .ok (.iconst 1, 1) := by decide +kernel
theorem dX12_step_5 : decode cX12_step 5 = .ok (.isub, 1) := by decide +kernel
theorem dX12_step_6 : decode cX12_step 6 = .ok (.istore_n 1, 1) := by decide +kernel
theorem dX12_step_7 : decode cX12_step 7 = .ok (.aload_n 0, 1) := by decide +kernel
theorem dX12_step_8 : decode cX12_step 8 = .ok (.getfield 26, 3) := by decide +kernel
theorem dX12_step_11 : decode cX12_step 11 = .ok (.iload_n 1, 1) := by decide +kernel
theorem dX12_step_12 : decode cX12_step 12 = .ok (.iaload, 1) := by decide +kernel
theorem dX12_step_13 : decode cX12_step 13 = .ok (.istore_n 2, 1) := by decide +kernel
theorem dX12_step_14 : decode cX12_step 14 = .ok (.iload_n 2, 1) := by decide +kernel
theorem dX12_step_15 : decode cX12_step 15 = .ok (.ifCond .ne 11, 3) := by decide +kernel
theorem dX12_step_18 : decode cX12_step 18 = .ok (.aload_n 0, 1) := by decide +kernel
theorem dX12_step_19 : decode cX12_step 19 = .ok (.iload_n 1, 1) := by decide +kernel
theorem dX12_step_20 : decode cX12_step 20 = .ok (.invokevirtual 226, 3) := by decide +kernel
theorem dX12_step_23 : decode cX12_step 23 = .ok (.goto 165, 3) := by decide +kernel
theorem dX12_step_26 : decode cX12_step 26 = .ok (.iload_n 2, 1) := by decide +kernel
theorem dX12_step_27 : decode cX12_step 27 = .ok (.iconst 3, 1) := by decide +kernel
theorem dX12_step_28 : decode cX12_step 28 = .ok (.if_icmp .ne 11, 3) := by decide +kernel
theorem dX12_step_31 : decode cX12_step 31 = .ok (.aload_n 0, 1) := by decide +kernel
theorem dX12_step_32 : decode cX12_step 32 = .ok (.iload_n 1, 1) := by decide +kernel
theorem dX12_step_33 : decode cX12_step 33 = .ok (.invokevirtual 229, 3) := by decide +kernel
theorem dX12_step_36 : decode cX12_step 36 = .ok (.goto 152, 3) := by decide +kernel
theorem dX12_step_39 : decode cX12_step 39 = .ok (.iload_n 2, 1) := by decide +kernel
theorem dX12_step_40 : decode cX12_step 40 = .ok (.iconst 4, 1) := by decide +kernel
theorem dX12_step_41 : decode cX12_step 41 = .ok (.if_icmp .ne 68, 3) := by decide +kernel
theorem dX12_step_44 : decode cX12_step 44 = .ok (.aload_n 0, 1) := by decide +kernel
theorem dX12_step_45 : decode cX12_step 45 = .ok (.getfield 32, 3) := by decide +kernel
theorem dX12_step_48 : decode cX12_step 48 = .ok (.iload_n 1, 1) := by decide +kernel
theorem dX12_step_49 : decode cX12_step 49 = .ok (.iaload, 1) := by decide +kernel
theorem dX12_step_50 : decode cX12_step 50 = .ok (.aload_n 0, 1) := by decide +kernel
theorem dX12_step_51 : decode cX12_step 51 = .ok (.getfield 29, 3) := by decide +kernel
theorem dX12_step_54 : decode cX12_step 54 = .ok (.iload_n 1, 1) := by decide +kernel
theorem dX12_step_55 : decode cX12_step 55 = .ok (.iaload, 1) := by decide +kernel
theorem dX12_step_56 : decode cX12_step 56 = .ok (.invokestatic 232, 3) := by decide +kernel
theorem dX12_step_59 : decode cX12_step 59 = .ok (.if_icmp .ne 16, 3) := by decide +kernel
theorem dX12_step_62 : decode cX12_step 62 = .ok (.aload_n 0, 1) := by decide +kernel
theorem dX12_step_63 : decode cX12_step 63 = .ok (.dup, 1) := by decide +kernel
theorem dX12_step_64 : decode cX12_step 64 = .ok (.getfield 186, 3) := by decide +kernel
theorem dX12_step_67 : decode cX12_step 67 = .ok (.iconst 1, 1) := by decide +kernel
theorem dX12_step_68 : decode cX12_step 68 = .ok (.isub, 1) := by decide +kernel
theorem dX12_step_69 : decode cX12_step 69 = .ok (.putfield 186, 3) := by decide +kernel
theorem dX12_step_72 : decode cX12_step 72 = .ok (.goto 116, 3) := by decide +kernel
theorem dX12_step_75 : decode cX12_step 75 = .ok (.aload_n 0, 1) := by decide +kernel
theorem dX12_step_76 : decode cX12_step 76 = .ok (.getfield 32, 3) := by decide +kernel
theorem dX12_step_79 : decode cX12_step 79 = .ok (.iload_n 1, 1) := by decide +kernel
theorem dX12_step_80 : decode cX12_step 80 = .ok (.dup2, 1) := by decide +kernel
theorem dX12_step_81 : decode cX12_step 81 = .ok (.iaload, 1) := by decide +kernel
theorem dX12_step_82 : decode cX12_step 82 = .ok (.iconst 1, 1) := by decide +kernel
theorem dX12_step_83 : decode cX12_step 83 = .ok (.iadd, 1) := by decide +kernel
theorem dX12_step_84 : decode cX12_step 84 = .ok (.iastore, 1) := by decide +kernel
theorem dX12_step_85 : decode cX12_step 85 = .ok (.aload_n 0, 1) := by decide +kernel
theorem dX12_step_86 : decode cX12_step 86 = .ok (.aload_n 0, 1) := by decide +kernel
theorem dX12_step_87 : decode cX12_step 87 = .ok (.getfield 29, 3) := by decide +kernel
theorem dX12_step_90 : decode cX12_step 90 = .ok (.iload_n 1, 1) := by decide +kernel
theorem dX12_step_91 : decode cX12_step 91 = .ok (.iaload, 1) := by decide +kernel
theorem dX12_step_92 : decode cX12_step 92 = .ok (.aload_n 0, 1) := by decide +kernel
theorem dX12_step_93 : decode cX12_step 93 = .ok (.getfield 32, 3) := by decide +kernel
theorem dX12_step_96 : decode cX12_step 96 = .ok (.iload_n 1, 1) := by decide +kernel
theorem dX12_step_97 : decode cX12_step 97 = .ok (.iaload, 1) := by decide +kernel
theorem dX12_step_98 : decode cX12_step 98 = .ok (.iconst 1, 1) := by decide +kernel
theorem dX12_step_99 : decode cX12_step 99 = .ok (.isub, 1) := by decide +kernel
theorem dX12_step_100 : decode cX12_step 100 = .ok (.invokestatic 236, 3) := by decide +kernel
theorem dX12_step_103 : decode cX12_step 103 = .ok (.invokevirtual 240, 3) := by decide +kernel
theorem dX12_step_106 : decode cX12_step 106 = .ok (.goto 82, 3) := by decide +kernel
theorem dX12_step_109 : decode cX12_step 109 = .ok (.iload_n 2, 1) := by decide +kernel
theorem dX12_step_110 : decode cX12_step 110 = .ok (.iconst 1, 1) := by decide +kernel
theorem dX12_step_111 : decode cX12_step 111 = .ok (.if_icmp .ne 17, 3) := by decide +kernel
theorem dX12_step_114 : decode cX12_step 114 = .ok (.aload_n 0, 1) := by decide +kernel
theorem dX12_step_115 : decode cX12_step 115 = .ok (.aload_n 0, 1) := by decide +kernel
theorem dX12_step_116 : decode cX12_step 116 = .ok (.getfield 29, 3) := by decide +kernel
theorem dX12_step_119 : decode cX12_step 119 = .ok (.iload_n 1, 1) := by decide +kernel
theorem dX12_step_120 : decode cX12_step 120 = .ok (.iaload, 1) := by decide +kernel
theorem dX12_step_121 : decode cX12_step 121 = .ok (.i2l, 1) := by decide +kernel
theorem dX12_step_122 : decode cX12_step 122 = .ok (.invokevirtual 139, 3) := by decide +kernel
theorem dX12_step_125 : decode cX12_step 125 = .ok (.goto 14, 3) := by decide +kernel
theorem dX12_step_128 : decode cX12_step 128 = .ok (.aload_n 0, 1) := by decide +kernel
theorem dX12_step_129 : decode cX12_step 129 = .ok (.aload_n 0, 1) := by decide +kernel
theorem dX12_step_130 : decode cX12_step 130 = .ok (.getfield 29, 3) := by decide +kernel
theorem dX12_step_133 : decode cX12_step 133 = .ok (.iload_n 1, 1) := by decide +kernel
theorem dX12_step_134 : decode cX12_step 134 = .ok (.iaload, 1) := by decide +kernel
theorem dX12_step_135 : decode cX12_step 135 = .ok (.i2l, 1) := by decide +kernel
theorem dX12_step_136 : decode cX12_step 136 = .ok (.invokevirtual 171, 3) := by decide +kernel
theorem dX12_step_139 : decode cX12_step 139 = .ok (.istore_n 3, 1) := by decide +kernel
theorem dX12_step_140 : decode cX12_step 140 = .ok (.aload_n 0, 1) := by decide +kernel
theorem dX12_step_141 : decode cX12_step 141 = .ok (.getfield 126, 3) := by decide +kernel
theorem dX12_step_144 : decode cX12_step 144 = .ok (.ifCond .ne 20, 3) := by decide +kernel
theorem dX12_step_147 : decode cX12_step 147 = .ok (.iload_n 3, 1) := by decide +kernel
theorem dX12_step_148 : decode cX12_step 148 = .ok (.ifCond .ne 16, 3) := by decide +kernel
theorem dX12_step_151 : decode cX12_step 151 = .ok (.aload_n 0, 1) := by decide +kernel
theorem dX12_step_152 : decode cX12_step 152 = .ok (.dup, 1) := by decide +kernel
theorem dX12_step_153 : decode cX12_step 153 = .ok (.getfield 186, 3) := by decide +kernel
theorem dX12_step_156 : decode cX12_step 156 = .ok (.iconst 1, 1) := by decide +kernel
theorem dX12_step_157 : decode cX12_step 157 = .ok (.isub, 1) := by decide +kernel
theorem dX12_step_158 : decode cX12_step 158 = .ok (.putfield 186, 3) := by decide +kernel
theorem dX12_step_161 : decode cX12_step 161 = .ok (.goto 27, 3) := by decide +kernel
theorem dX12_step_164 : decode cX12_step 164 = .ok (.aload_n 0, 1) := by decide +kernel
theorem dX12_step_165 : decode cX12_step 165 = .ok (.getfield 29, 3) := by decide +kernel
theorem dX12_step_168 : decode cX12_step 168 = .ok (.iload_n 1, 1) := by decide +kernel
theorem dX12_step_169 : decode cX12_step 169 = .ok (.dup2, 1) := by decide +kernel
theorem dX12_step_170 : decode cX12_step 170 = .ok (.iaload, 1) := by decide +kernel
theorem dX12_step_171 : decode cX12_step 171 = .ok (.iload_n 2, 1) := by decide +kernel
theorem dX12_step_172 : decode cX12_step 172 = .ok (.iconst 1, 1) := by decide +kernel
theorem dX12_step_173 : decode cX12_step 173 = .ok (.if_icmp .ne 7, 3) := by decide +kernel
theorem dX12_step_176 : decode cX12_step 176 = .ok (.iconst 1, 1) := by decide +kernel
theorem dX12_step_177 : decode cX12_step 177 = .ok (.goto 4, 3) := by decide +kernel
theorem dX12_step_180 : decode cX12_step 180 = .ok (.iconst 4, 1) := by decide +kernel
theorem dX12_step_181 : decode cX12_step 181 = .ok (.iadd, 1) := by decide +kernel
theorem dX12_step_182 : decode cX12_step 182 = .ok (.iastore, 1) := by decide +kernel
theorem dX12_step_183 : decode cX12_step 183 = .ok (.aload_n 0, 1) := by decide +kernel
theorem dX12_step_184 : decode cX12_step 184 = .ok (.iload_n 3, 1) := by decide +kernel
theorem dX12_step_185 : decode cX12_step 185 = .ok (.invokevirtual 240, 3) := by decide +kernel
theorem dX12_step_188 : decode cX12_step 188 = .ok (.return_, 1) := by decide +kernel
theorem dX12_digits_0 : decode cX12_digits 0 = .ok (.iload_n 0, 1) := by decide +kernel
theorem dX12_digits_1 : decode cX12_digits 1 = .ok (.ifCond .ge 9, 3) := by decide +kernel
theorem dX12_digits_4 : decode cX12_digits 4 = .ok (.iload_n 0, 1) := by decide +kernel
theorem dX12_digits_5 : decode cX12_digits 5 = .ok (.i2l, 1) := by decide +kernel
theorem dX12_digits_6 : decode cX12_digits 6 = .ok (.lneg, 1) := by decide +kernel
theorem dX12_digits_7 : decode cX12_digits 7 = .ok (.goto 5, 3) := by decide +kernel
theorem dX12_digits_10 : decode cX12_digits 10 = .ok (.iload_n 0, 1) := by decide +kernel
theorem dX12_digits_11 : decode cX12_digits 11 = .ok (.i2l, 1) := by decide +kernel
theorem dX12_digits_12 : decode cX12_digits 12 = .ok (.lstore_n 1, 1) := by decide +kernel
theorem dX12_digits_13 : decode cX12_digits 13 = .ok (.iload_n 0, 1) := by decide +kernel
theorem dX12_digits_14 : decode cX12_digits 14 = .ok (.ifCond .ge 7, 3) := by decide +kernel
theorem dX12_digits_17 : decode cX12_digits 17 = .ok (.iconst 2, 1) := by decide +kernel
theorem dX12_digits_18 : decode cX12_digits 18 = .ok (.goto 4, 3) := by decide +kernel
theorem dX12_digits_21 : decode cX12_digits 21 = .ok (.iconst 1, 1) := by decide +kernel
theorem dX12_digits_22 : decode cX12_digits 22 = .ok (.istore_n 3, 1) := by decide +kernel
theorem dX12_digits_23 : decode cX12_digits 23 = .ok (.lload_n 1, 1) := by decide +kernel
theorem dX12_digits_24 : decode cX12_digits 24 = .ok (.ldc2_w 243, 3) := by decide +kernel
theorem dX12_digits_27 : decode cX12_digits 27 = .ok (.lcmp, 1) := by decide +kernel
theorem dX12_digits_28 : decode cX12_digits 28 = .ok (.ifCond .lt 15, 3) := by decide +kernel
theorem dX12_digits_31 : decode cX12_digits 31 = .ok (.lload_n 1, 1) := by decide +kernel
theorem dX12_digits_32 : decode cX12_digits 32 = .ok (.ldc2_w 243, 3) := by decide +kernel
theorem dX12_digits_35 : decode cX12_digits 35 = .ok (.ldiv, 1) := by decide +kernel
theorem dX12_digits_36 : decode cX12_digits 36 = .ok (.lstore_n 1, 1) := by decide +kernel
theorem dX12_digits_37 : decode cX12_digits 37 = .ok (.iinc 3 1, 3) := by decide +kernel
theorem dX12_digits_40 : decode cX12_digits 40 = .ok (.goto (-17), 3) := by decide +kernel
theorem dX12_digits_43 : decode cX12_digits 43 = .ok (.iload_n 3, 1) := by decide +kernel
theorem dX12_digits_44 : decode cX12_digits 44 = .ok (.ireturn, 1) := by decide +kernel
theorem dX12_digit_0 : decode cX12_digit 0 = .ok (.iload_n 0, 1) := by decide +kernel
theorem dX12_digit_1 : decode cX12_digit 1 = .ok (.ifCond .ge 10, 3) := by decide +kernel
theorem dX12_digit_4 : decode cX12_digit 4 = .ok (.iload_n 1, 1) := by decide +kernel
theorem dX12_digit_5 : decode cX12_digit 5 = .ok (.ifCond .ne 6, 3) := by decide +kernel
theorem dX12_digit_8 : decode cX12_digit 8 = .ok (.bipush 45, 2) := by decide +kernel
theorem dX12_digit_10 : decode cX12_digit 10 = .ok (.ireturn, 1) := by decide +kernel
theorem dX12_digit_11 : decode cX12_digit 11 = .ok (.iload_n 0, 1) := by decide +kernel
theorem dX12_digit_12 : decode cX12_digit 12 = .ok (.ifCond .ge 9, 3) := by decide +kernel
theorem dX12_digit_15 : decode cX12_digit 15 = .ok (.iload_n 0, 1) := by decide +kernel
theorem dX12_digit_16 : decode cX12_digit 16 = .ok (.i2l, 1) := by decide +kernel
theorem dX12_digit_17 : decode cX12_digit 17 = .ok (.lneg, 1) := by decide +kernel
theorem dX12_digit_18 : decode cX12_digit 18 = .ok (.goto 5, 3) := by decide +kernel
theorem dX12_digit_21 : decode cX12_digit 21 = .ok (.iload_n 0, 1) := by decide +kernel
theorem dX12_digit_22 : decode cX12_digit 22 = .ok (.i2l, 1) := by decide +kernel
theorem dX12_digit_23 : decode cX12_digit 23 = .ok (.lstore_n 2, 1) := by decide +kernel
theorem dX12_digit_24 : decode cX12_digit 24 = .ok (.iload_n 0, 1) := by decide +kernel
theorem dX12_digit_25 : decode cX12_digit 25 = .ok (.invokestatic 232, 3) := by decide +kernel
theorem dX12_digit_28 : decode cX12_digit 28 = .ok (.iconst 1, 1) := by decide +kernel
theorem dX12_digit_29 : decode cX12_digit 29 = .ok (.isub, 1) := by decide +kernel
theorem dX12_digit_30 : decode cX12_digit 30 = .ok (.iload_n 1, 1) := by decide +kernel
theorem dX12_digit_31 : decode cX12_digit 31 = .ok (.isub, 1) := by decide +kernel
theorem dX12_digit_32 : decode cX12_digit 32 = .ok (.istore 4, 2) := by decide +kernel
theorem dX12_digit_34 : decode cX12_digit 34 = .ok (.iconst 0, 1) := by decide +kernel
theorem dX12_digit_35 : decode cX12_digit 35 = .ok (.istore 5, 2) := by decide +kernel
theorem dX12_digit_37 : decode cX12_digit 37 = .ok (.iload 5, 2) := by decide +kernel
theorem dX12_digit_39 : decode cX12_digit 39 = .ok (.iload 4, 2) := by decide +kernel
theorem dX12_digit_41 : decode cX12_digit 41 = .ok (.if_icmp .ge 15, 3) := by decide +kernel
theorem dX12_digit_44 : decode cX12_digit 44 = .ok (.lload_n 2, 1) := by decide +kernel
theorem dX12_digit_45 : decode cX12_digit 45 = .ok (.ldc2_w 243, 3) := by decide +kernel
theorem dX12_digit_48 : decode cX12_digit 48 = .ok (.ldiv, 1) := by decide +kernel
theorem dX12_digit_49 : decode cX12_digit 49 = .ok (.lstore_n 2, 1) := by decide +kernel
theorem dX12_digit_50 : decode cX12_digit 50 = .ok (.iinc 5 1, 3) := by decide +kernel
theorem dX12_digit_53 : decode cX12_digit 53 = .ok (.goto (-16), 3) := by decide +kernel
theorem dX12_digit_56 : decode cX12_digit 56 = .ok (.bipush 48, 2) := by decide +kernel
theorem dX12_digit_58 : decode cX12_digit 58 = .ok (.lload_n 2, 1) := by decide +kernel
theorem dX12_digit_59 : decode cX12_digit 59 = .ok (.ldc2_w 243, 3) := by decide +kernel
theorem dX12_digit_62 : decode cX12_digit 62 = .ok (.lrem, 1) := by decide +kernel
theorem dX12_digit_63 : decode cX12_digit 63 = .ok (.l2i, 1) := by decide +kernel
theorem dX12_digit_64 : decode cX12_digit 64 = .ok (.iadd, 1) := by decide +kernel
theorem dX12_digit_65 : decode cX12_digit 65 = .ok (.ireturn, 1) := by decide +kernel
theorem dX12_packed_0 : decode cX12_packed 0 = .ok (.aload_n 0, 1) := by decide +kernel
theorem dX12_packed_1 : decode cX12_packed 1 = .ok (.getfield 146, 3) := by decide +kernel
theorem dX12_packed_4 : decode cX12_packed 4 = .ok (.ifCond .ne 9, 3) := by decide +kernel
theorem dX12_packed_7 : decode cX12_packed 7 = .ok (.aload_n 0, 1) := by decide +kernel
theorem dX12_packed_8 : decode cX12_packed 8 = .ok (.iconst 2, 1) := by decide +kernel
theorem dX12_packed_9 : decode cX12_packed 9 = .ok (.invokevirtual 135, 3) := by decide +kernel
theorem dX12_packed_12 : decode cX12_packed 12 = .ok (.return_, 1) := by decide +kernel
theorem dX12_packed_13 : decode cX12_packed 13 = .ok (.aload_n 0, 1) := by decide +kernel
theorem dX12_packed_14 : decode cX12_packed 14 = .ok (.getfield 41, 3) := by decide +kernel
theorem dX12_packed_17 : decode cX12_packed 17 = .ok (.iload_n 1, 1) := by decide +kernel
theorem dX12_packed_18 : decode cX12_packed 18 = .ok (.baload, 1) := by decide +kernel
theorem dX12_packed_19 : decode cX12_packed 19 = .ok (.ifCond .eq 19, 3) := by decide +kernel
theorem dX12_packed_22 : decode cX12_packed 22 = .ok (.aload_n 0, 1) := by decide +kernel
theorem dX12_packed_23 : decode cX12_packed 23 = .ok (.aload_n 0, 1) := by decide +kernel
theorem dX12_packed_24 : decode cX12_packed 24 = .ok (.getfield 146, 3) := by decide +kernel
theorem dX12_packed_27 : decode cX12_packed 27 = .ok (.i2l, 1) := by decide +kernel
theorem dX12_packed_28 : decode cX12_packed 28 = .ok (.ldc2_w 157, 3) := by decide +kernel
theorem dX12_packed_31 : decode cX12_packed 31 = .ok (.ladd, 1) := by decide +kernel
theorem dX12_packed_32 : decode cX12_packed 32 = .ok (.invokevirtual 171, 3) := by decide +kernel
theorem dX12_packed_35 : decode cX12_packed 35 = .ok (.goto 9, 3) := by decide +kernel
theorem dX12_packed_38 : decode cX12_packed 38 = .ok (.aload_n 0, 1) := by decide +kernel
theorem dX12_packed_39 : decode cX12_packed 39 = .ok (.getfield 44, 3) := by decide +kernel
theorem dX12_packed_42 : decode cX12_packed 42 = .ok (.iload_n 1, 1) := by decide +kernel
theorem dX12_packed_43 : decode cX12_packed 43 = .ok (.iaload, 1) := by decide +kernel
theorem dX12_packed_44 : decode cX12_packed 44 = .ok (.istore_n 2, 1) := by decide +kernel
theorem dX12_packed_45 : decode cX12_packed 45 = .ok (.aload_n 0, 1) := by decide +kernel
theorem dX12_packed_46 : decode cX12_packed 46 = .ok (.iload_n 2, 1) := by decide +kernel
theorem dX12_packed_47 : decode cX12_packed 47 = .ok (.i2l, 1) := by decide +kernel
theorem dX12_packed_48 : decode cX12_packed 48 = .ok (.invokevirtual 139, 3) := by decide +kernel
theorem dX12_packed_51 : decode cX12_packed 51 = .ok (.istore_n 3, 1) := by decide +kernel
theorem dX12_packed_52 : decode cX12_packed 52 = .ok (.aload_n 0, 1) := by decide +kernel
theorem dX12_packed_53 : decode cX12_packed 53 = .ok (.getfield 126, 3) := by decide +kernel
theorem dX12_packed_56 : decode cX12_packed 56 = .ok (.ifCond .le 4, 3) := by decide +kernel
theorem dX12_packed_59 : decode cX12_packed 59 = .ok (.return_, 1) := by decide +kernel
theorem dX12_packed_60 : decode cX12_packed 60 = .ok (.iload_n 3, 1) := by decide +kernel
theorem dX12_packed_61 : decode cX12_packed 61 = .ok (.ifCond .ne 96, 3) := by decide +kernel
theorem dX12_packed_64 : decode cX12_packed 64 = .ok (.aload_n 0, 1) := by decide +kernel
theorem dX12_packed_65 : decode cX12_packed 65 = .ok (.aload_n 0, 1) := by decide +kernel
theorem dX12_packed_66 : decode cX12_packed 66 = .ok (.getfield 29, 3) := by decide +kernel
theorem dX12_packed_69 : decode cX12_packed 69 = .ok (.iload_n 1, 1) := by decide +kernel
theorem dX12_packed_70 : decode cX12_packed 70 = .ok (.iaload, 1) := by decide +kernel
theorem dX12_packed_71 : decode cX12_packed 71 = .ok (.i2l, 1) := by decide +kernel
theorem dX12_packed_72 : decode cX12_packed 72 = .ok (.invokevirtual 139, 3) := by decide +kernel
theorem dX12_packed_75 : decode cX12_packed 75 = .ok (.aload_n 0, 1) := by decide +kernel
theorem dX12_packed_76 : decode cX12_packed 76 = .ok (.getfield 32, 3) := by decide +kernel
theorem dX12_packed_79 : decode cX12_packed 79 = .ok (.iload_n 1, 1) := by decide +kernel
theorem dX12_packed_80 : decode cX12_packed 80 = .ok (.iaload, 1) := by decide +kernel
theorem dX12_packed_81 : decode cX12_packed 81 = .ok (.ishr, 1) := by decide +kernel
theorem dX12_packed_82 : decode cX12_packed 82 = .ok (.iconst 1, 1) := by decide +kernel
theorem dX12_packed_83 : decode cX12_packed 83 = .ok (.iand, 1) := by decide +kernel
theorem dX12_packed_84 : decode cX12_packed 84 = .ok (.istore 4, 2) := by decide +kernel
theorem dX12_packed_86 : decode cX12_packed 86 = .ok (.aload_n 0, 1) := by decide +kernel
theorem dX12_packed_87 : decode cX12_packed 87 = .ok (.getfield 44, 3) := by decide +kernel
theorem dX12_packed_90 : decode cX12_packed 90 = .ok (.iload_n 1, 1) := by decide +kernel
theorem dX12_packed_91 : decode cX12_packed 91 = .ok (.aload_n 0, 1) := by decide +kernel
theorem dX12_packed_92 : decode cX12_packed 92 = .ok (.iload_n 2, 1) := by decide +kernel
theorem dX12_packed_93 : decode cX12_packed 93 = .ok (.i2l, 1) := by decide +kernel
theorem dX12_packed_94 : decode cX12_packed 94 = .ok (.iload 4, 2) := by decide +kernel
theorem dX12_packed_96 : decode cX12_packed 96 = .ok (.ifCond .ne 7, 3) := by decide +kernel
theorem dX12_packed_99 : decode cX12_packed 99 = .ok (.lconst 1, 1) := by decide +kernel
theorem dX12_packed_100 : decode cX12_packed 100 = .ok (.goto 6, 3) := by decide +kernel
theorem dX12_packed_103 : decode cX12_packed 103 = .ok (.ldc2_w 178, 3) := by decide +kernel
theorem dX12_packed_106 : decode cX12_packed 106 = .ok (.ladd, 1) := by decide +kernel
theorem dX12_packed_107 : decode cX12_packed 107 = .ok (.invokevirtual 171, 3) := by decide +kernel
theorem dX12_packed_110 : decode cX12_packed 110 = .ok (.iastore, 1) := by decide +kernel
theorem dX12_packed_111 : decode cX12_packed 111 = .ok (.aload_n 0, 1) := by decide +kernel
theorem dX12_packed_112 : decode cX12_packed 112 = .ok (.getfield 41, 3) := by decide +kernel
theorem dX12_packed_115 : decode cX12_packed 115 = .ok (.iload_n 1, 1) := by decide +kernel
theorem dX12_packed_116 : decode cX12_packed 116 = .ok (.iconst 0, 1) := by decide +kernel
theorem dX12_packed_117 : decode cX12_packed 117 = .ok (.bastore, 1) := by decide +kernel
theorem dX12_packed_118 : decode cX12_packed 118 = .ok (.aload_n 0, 1) := by decide +kernel
theorem dX12_packed_119 : decode cX12_packed 119 = .ok (.getfield 32, 3) := by decide +kernel
theorem dX12_packed_122 : decode cX12_packed 122 = .ok (.iload_n 1, 1) := by decide +kernel
theorem dX12_packed_123 : decode cX12_packed 123 = .ok (.dup2, 1) := by decide +kernel
theorem dX12_packed_124 : decode cX12_packed 124 = .ok (.iaload, 1) := by decide +kernel
theorem dX12_packed_125 : decode cX12_packed 125 = .ok (.iconst 1, 1) := by decide +kernel
theorem dX12_packed_126 : decode cX12_packed 126 = .ok (.iadd, 1) := by decide +kernel
theorem dX12_packed_127 : decode cX12_packed 127 = .ok (.iastore, 1) := by decide +kernel
theorem dX12_packed_128 : decode cX12_packed 128 = .ok (.aload_n 0, 1) := by decide +kernel
theorem dX12_packed_129 : decode cX12_packed 129 = .ok (.getfield 32, 3) := by decide +kernel
theorem dX12_packed_132 : decode cX12_packed 132 = .ok (.iload_n 1, 1) := by decide +kernel
theorem dX12_packed_133 : decode cX12_packed 133 = .ok (.iaload, 1) := by decide +kernel
theorem dX12_packed_134 : decode cX12_packed 134 = .ok (.bipush 8, 2) := by decide +kernel
theorem dX12_packed_136 : decode cX12_packed 136 = .ok (.if_icmp .ne 20, 3) := by decide +kernel
theorem dX12_packed_139 : decode cX12_packed 139 = .ok (.aload_n 0, 1) := by decide +kernel
theorem dX12_packed_140 : decode cX12_packed 140 = .ok (.getfield 32, 3) := by decide +kernel
theorem dX12_packed_143 : decode cX12_packed 143 = .ok (.iload_n 1, 1) := by decide +kernel
theorem dX12_packed_144 : decode cX12_packed 144 = .ok (.iconst 0, 1) := by decide +kernel
theorem dX12_packed_145 : decode cX12_packed 145 = .ok (.iastore, 1) := by decide +kernel
theorem dX12_packed_146 : decode cX12_packed 146 = .ok (.aload_n 0, 1) := by decide +kernel
theorem dX12_packed_147 : decode cX12_packed 147 = .ok (.getfield 29, 3) := by decide +kernel
theorem dX12_packed_150 : decode cX12_packed 150 = .ok (.iload_n 1, 1) := by decide +kernel
theorem dX12_packed_151 : decode cX12_packed 151 = .ok (.dup2, 1) := by decide +kernel
theorem dX12_packed_152 : decode cX12_packed 152 = .ok (.iaload, 1) := by decide +kernel
theorem dX12_packed_153 : decode cX12_packed 153 = .ok (.iconst 1, 1) := by decide +kernel
theorem dX12_packed_154 : decode cX12_packed 154 = .ok (.iadd, 1) := by decide +kernel
theorem dX12_packed_155 : decode cX12_packed 155 = .ok (.iastore, 1) := by decide +kernel
theorem dX12_packed_156 : decode cX12_packed 156 = .ok (.return_, 1) := by decide +kernel
theorem dX12_packed_157 : decode cX12_packed 157 = .ok (.aload_n 0, 1) := by decide +kernel
theorem dX12_packed_158 : decode cX12_packed 158 = .ok (.getfield 41, 3) := by decide +kernel
theorem dX12_packed_161 : decode cX12_packed 161 = .ok (.iload_n 1, 1) := by decide +kernel
theorem dX12_packed_162 : decode cX12_packed 162 = .ok (.iconst 1, 1) := by decide +kernel
theorem dX12_packed_163 : decode cX12_packed 163 = .ok (.bastore, 1) := by decide +kernel
theorem dX12_packed_164 : decode cX12_packed 164 = .ok (.iload_n 3, 1) := by decide +kernel
theorem dX12_packed_165 : decode cX12_packed 165 = .ok (.iconst 1, 1) := by decide +kernel
theorem dX12_packed_166 : decode cX12_packed 166 = .ok (.if_icmp .ne 16, 3) := by decide +kernel
theorem dX12_packed_169 : decode cX12_packed 169 = .ok (.aload_n 0, 1) := by decide +kernel
theorem dX12_packed_170 : decode cX12_packed 170 = .ok (.dup, 1) := by decide +kernel
theorem dX12_packed_171 : decode cX12_packed 171 = .ok (.getfield 186, 3) := by decide +kernel
theorem dX12_packed_174 : decode cX12_packed 174 = .ok (.iconst 1, 1) := by decide +kernel
theorem dX12_packed_175 : decode cX12_packed 175 = .ok (.isub, 1) := by decide +kernel
theorem dX12_packed_176 : decode cX12_packed 176 = .ok (.putfield 186, 3) := by decide +kernel
theorem dX12_packed_179 : decode cX12_packed 179 = .ok (.goto 99, 3) := by decide +kernel
theorem dX12_packed_182 : decode cX12_packed 182 = .ok (.iload_n 3, 1) := by decide +kernel
theorem dX12_packed_183 : decode cX12_packed 183 = .ok (.iconst 2, 1) := by decide +kernel
theorem dX12_packed_184 : decode cX12_packed 184 = .ok (.if_icmp .ne 18, 3) := by decide +kernel
theorem dX12_packed_187 : decode cX12_packed 187 = .ok (.aload_n 0, 1) := by decide +kernel
theorem dX12_packed_188 : decode cX12_packed 188 = .ok (.aload_n 0, 1) := by decide +kernel
theorem dX12_packed_189 : decode cX12_packed 189 = .ok (.iload_n 2, 1) := by decide +kernel
theorem dX12_packed_190 : decode cX12_packed 190 = .ok (.i2l, 1) := by decide +kernel
theorem dX12_packed_191 : decode cX12_packed 191 = .ok (.lconst 1, 1) := by decide +kernel
theorem dX12_packed_192 : decode cX12_packed 192 = .ok (.ladd, 1) := by decide +kernel
theorem dX12_packed_193 : decode cX12_packed 193 = .ok (.invokevirtual 139, 3) := by decide +kernel
theorem dX12_packed_196 : decode cX12_packed 196 = .ok (.invokevirtual 240, 3) := by decide +kernel
theorem dX12_packed_199 : decode cX12_packed 199 = .ok (.goto 79, 3) := by decide +kernel
theorem dX12_packed_202 : decode cX12_packed 202 = .ok (.iload_n 3, 1) := by decide +kernel
theorem dX12_packed_203 : decode cX12_packed 203 = .ok (.iconst 4, 1) := by decide +kernel
theorem dX12_packed_204 : decode cX12_packed 204 = .ok (.if_icmp .ne 18, 3) := by decide +kernel
theorem dX12_packed_207 : decode cX12_packed 207 = .ok (.aload_n 0, 1) := by decide +kernel
theorem dX12_packed_208 : decode cX12_packed 208 = .ok (.aload_n 0, 1) := by decide +kernel
theorem dX12_packed_209 : decode cX12_packed 209 = .ok (.iload_n 2, 1) := by decide +kernel
theorem dX12_packed_210 : decode cX12_packed 210 = .ok (.i2l, 1) := by decide +kernel
theorem dX12_packed_211 : decode cX12_packed 211 = .ok (.lconst 1, 1) := by decide +kernel
theorem dX12_packed_212 : decode cX12_packed 212 = .ok (.ladd, 1) := by decide +kernel
theorem dX12_packed_213 : decode cX12_packed 213 = .ok (.invokevirtual 171, 3) := by decide +kernel
theorem dX12_packed_216 : decode cX12_packed 216 = .ok (.invokevirtual 240, 3) := by decide +kernel
theorem dX12_packed_219 : decode cX12_packed 219 = .ok (.goto 59, 3) := by decide +kernel
theorem dX12_packed_222 : decode cX12_packed 222 = .ok (.iload_n 3, 1) := by decide +kernel
theorem dX12_packed_223 : decode cX12_packed 223 = .ok (.iconst 3, 1) := by decide +kernel
theorem dX12_packed_224 : decode cX12_packed 224 = .ok (.if_icmp .eq 8, 3) := by decide +kernel
theorem dX12_packed_227 : decode cX12_packed 227 = .ok (.iload_n 3, 1) := by decide +kernel
theorem dX12_packed_228 : decode cX12_packed 228 = .ok (.iconst 5, 1) := by decide +kernel
theorem dX12_packed_229 : decode cX12_packed 229 = .ok (.if_icmp .ne 23, 3) := by decide +kernel
theorem dX12_packed_232 : decode cX12_packed 232 = .ok (.aload_n 0, 1) := by decide +kernel
theorem dX12_packed_233 : decode cX12_packed 233 = .ok (.iload_n 3, 1) := by decide +kernel
theorem dX12_packed_234 : decode cX12_packed 234 = .ok (.iconst 3, 1) := by decide +kernel
theorem dX12_packed_235 : decode cX12_packed 235 = .ok (.if_icmp .ne 7, 3) := by decide +kernel
theorem dX12_packed_238 : decode cX12_packed 238 = .ok (.iconst 1, 1) := by decide +kernel
theorem dX12_packed_239 : decode cX12_packed 239 = .ok (.goto 4, 3) := by decide +kernel
theorem dX12_packed_242 : decode cX12_packed 242 = .ok (.iconst 2, 1) := by decide +kernel
theorem dX12_packed_243 : decode cX12_packed 243 = .ok (.iload_n 2, 1) := by decide +kernel
theorem dX12_packed_244 : decode cX12_packed 244 = .ok (.iconst 1, 1) := by decide +kernel
theorem dX12_packed_245 : decode cX12_packed 245 = .ok (.iadd, 1) := by decide +kernel
theorem dX12_packed_246 : decode cX12_packed 246 = .ok (.invokevirtual 207, 3) := by decide +kernel
theorem dX12_packed_249 : decode cX12_packed 249 = .ok (.goto 29, 3) := by decide +kernel
theorem dX12_packed_252 : decode cX12_packed 252 = .ok (.iload_n 3, 1) := by decide +kernel
theorem dX12_packed_253 : decode cX12_packed 253 = .ok (.bipush 8, 2) := by decide +kernel
theorem dX12_packed_255 : decode cX12_packed 255 = .ok (.if_icmp .lt 18, 3) := by decide +kernel
theorem dX12_packed_258 : decode cX12_packed 258 = .ok (.iload_n 3, 1) := by decide +kernel
theorem dX12_packed_259 : decode cX12_packed 259 = .ok (.bipush 11, 2) := by decide +kernel
theorem dX12_packed_261 : decode cX12_packed 261 = .ok (.if_icmp .gt 12, 3) := by decide +kernel
theorem dX12_packed_264 : decode cX12_packed 264 = .ok (.aload_n 0, 1) := by decide +kernel
theorem dX12_packed_265 : decode cX12_packed 265 = .ok (.iload_n 2, 1) := by decide +kernel
theorem dX12_packed_266 : decode cX12_packed 266 = .ok (.iload_n 3, 1) := by decide +kernel
theorem dX12_packed_267 : decode cX12_packed 267 = .ok (.invokevirtual 245, 3) := by decide +kernel
theorem dX12_packed_270 : decode cX12_packed 270 = .ok (.goto 8, 3) := by decide +kernel
theorem dX12_packed_273 : decode cX12_packed 273 = .ok (.aload_n 0, 1) := by decide +kernel
theorem dX12_packed_274 : decode cX12_packed 274 = .ok (.iconst 3, 1) := by decide +kernel
theorem dX12_packed_275 : decode cX12_packed 275 = .ok (.invokevirtual 135, 3) := by decide +kernel
theorem dX12_packed_278 : decode cX12_packed 278 = .ok (.return_, 1) := by decide +kernel
theorem dX12_thing_0 : decode cX12_thing 0 = .ok (.aload_n 0, 1) := by decide +kernel
theorem dX12_thing_1 : decode cX12_thing 1 = .ok (.iload_n 1, 1) := by decide +kernel
theorem dX12_thing_2 : decode cX12_thing 2 = .ok (.i2l, 1) := by decide +kernel
theorem dX12_thing_3 : decode cX12_thing 3 = .ok (.lconst 1, 1) := by decide +kernel
theorem dX12_thing_4 : decode cX12_thing 4 = .ok (.ladd, 1) := by decide +kernel
theorem dX12_thing_5 : decode cX12_thing 5 = .ok (.invokevirtual 171, 3) := by decide +kernel
theorem dX12_thing_8 : decode cX12_thing 8 = .ok (.istore_n 3, 1) := by decide +kernel
theorem dX12_thing_9 : decode cX12_thing 9 = .ok (.iload_n 2, 1) := by decide +kernel
theorem dX12_thing_10 : decode cX12_thing 10 = .ok (.iconst 2, 1) := by decide +kernel
theorem dX12_thing_11 : decode cX12_thing 11 = .ok (.irem, 1) := by decide +kernel
theorem dX12_thing_12 : decode cX12_thing 12 = .ok (.iconst 1, 1) := by decide +kernel
theorem dX12_thing_13 : decode cX12_thing 13 = .ok (.if_icmp .ne 17, 3) := by decide +kernel
theorem dX12_thing_16 : decode cX12_thing 16 = .ok (.aload_n 0, 1) := by decide +kernel
theorem dX12_thing_17 : decode cX12_thing 17 = .ok (.getfield 126, 3) := by decide +kernel
theorem dX12_thing_20 : decode cX12_thing 20 = .ok (.ifCond .ne 10, 3) := by decide +kernel
theorem dX12_thing_23 : decode cX12_thing 23 = .ok (.aload_n 0, 1) := by decide +kernel
theorem dX12_thing_24 : decode cX12_thing 24 = .ok (.iload_n 3, 1) := by decide +kernel
theorem dX12_thing_25 : decode cX12_thing 25 = .ok (.i2l, 1) := by decide +kernel
theorem dX12_thing_26 : decode cX12_thing 26 = .ok (.invokevirtual 171, 3) := by decide +kernel
theorem dX12_thing_29 : decode cX12_thing 29 = .ok (.istore_n 3, 1) := by decide +kernel
theorem dX12_thing_30 : decode cX12_thing 30 = .ok (.iload_n 2, 1) := by decide +kernel
theorem dX12_thing_31 : decode cX12_thing 31 = .ok (.bipush 9, 2) := by decide +kernel
theorem dX12_thing_33 : decode cX12_thing 33 = .ok (.if_icmp .le 23, 3) := by decide +kernel
theorem dX12_thing_36 : decode cX12_thing 36 = .ok (.aload_n 0, 1) := by decide +kernel
theorem dX12_thing_37 : decode cX12_thing 37 = .ok (.getfield 126, 3) := by decide +kernel
theorem dX12_thing_40 : decode cX12_thing 40 = .ok (.ifCond .ne 16, 3) := by decide +kernel
theorem dX12_thing_43 : decode cX12_thing 43 = .ok (.aload_n 0, 1) := by decide +kernel
theorem dX12_thing_44 : decode cX12_thing 44 = .ok (.iload_n 1, 1) := by decide +kernel
theorem dX12_thing_45 : decode cX12_thing 45 = .ok (.i2l, 1) := by decide +kernel
theorem dX12_thing_46 : decode cX12_thing 46 = .ok (.ldc2_w 178, 3) := by decide +kernel
theorem dX12_thing_49 : decode cX12_thing 49 = .ok (.ladd, 1) := by decide +kernel
theorem dX12_thing_50 : decode cX12_thing 50 = .ok (.invokevirtual 171, 3) := by decide +kernel
theorem dX12_thing_53 : decode cX12_thing 53 = .ok (.goto 4, 3) := by decide +kernel
theorem dX12_thing_56 : decode cX12_thing 56 = .ok (.iconst 0, 1) := by decide +kernel
theorem dX12_thing_57 : decode cX12_thing 57 = .ok (.istore 4, 2) := by decide +kernel
theorem dX12_thing_59 : decode cX12_thing 59 = .ok (.aload_n 0, 1) := by decide +kernel
theorem dX12_thing_60 : decode cX12_thing 60 = .ok (.getfield 126, 3) := by decide +kernel
theorem dX12_thing_63 : decode cX12_thing 63 = .ok (.ifCond .ne 21, 3) := by decide +kernel
theorem dX12_thing_66 : decode cX12_thing 66 = .ok (.iload 4, 2) := by decide +kernel
theorem dX12_thing_68 : decode cX12_thing 68 = .ok (.i2l, 1) := by decide +kernel
theorem dX12_thing_69 : decode cX12_thing 69 = .ok (.lconst 0, 1) := by decide +kernel
theorem dX12_thing_70 : decode cX12_thing 70 = .ok (.ldc2_w 180, 3) := by decide +kernel
theorem dX12_thing_73 : decode cX12_thing 73 = .ok (.invokestatic 131, 3) := by decide +kernel
theorem dX12_thing_76 : decode cX12_thing 76 = .ok (.ifCond .ne 8, 3) := by decide +kernel
theorem dX12_thing_79 : decode cX12_thing 79 = .ok (.aload_n 0, 1) := by decide +kernel
theorem dX12_thing_80 : decode cX12_thing 80 = .ok (.iconst 5, 1) := by decide +kernel
theorem dX12_thing_81 : decode cX12_thing 81 = .ok (.invokevirtual 135, 3) := by decide +kernel
theorem dX12_thing_84 : decode cX12_thing 84 = .ok (.iconst 0, 1) := by decide +kernel
theorem dX12_thing_85 : decode cX12_thing 85 = .ok (.istore 5, 2) := by decide +kernel
theorem dX12_thing_87 : decode cX12_thing 87 = .ok (.iload 5, 2) := by decide +kernel
theorem dX12_thing_89 : decode cX12_thing 89 = .ok (.iload 4, 2) := by decide +kernel
theorem dX12_thing_91 : decode cX12_thing 91 = .ok (.if_icmp .ge 41, 3) := by decide +kernel
theorem dX12_thing_94 : decode cX12_thing 94 = .ok (.aload_n 0, 1) := by decide +kernel
theorem dX12_thing_95 : decode cX12_thing 95 = .ok (.getfield 126, 3) := by decide +kernel
theorem dX12_thing_98 : decode cX12_thing 98 = .ok (.ifCond .ne 34, 3) := by decide +kernel
theorem dX12_thing_101 : decode cX12_thing 101 = .ok (.aload_n 0, 1) := by decide +kernel
theorem dX12_thing_102 : decode cX12_thing 102 = .ok (.getfield 53, 3) := by decide +kernel
theorem dX12_thing_105 : decode cX12_thing 105 = .ok (.iload 5, 2) := by decide +kernel
theorem dX12_thing_107 : decode cX12_thing 107 = .ok (.aload_n 0, 1) := by decide +kernel
theorem dX12_thing_108 : decode cX12_thing 108 = .ok (.iload_n 1, 1) := by decide +kernel
theorem dX12_thing_109 : decode cX12_thing 109 = .ok (.i2l, 1) := by decide +kernel
theorem dX12_thing_110 : decode cX12_thing 110 = .ok (.ldc2_w 182, 3) := by decide +kernel
theorem dX12_thing_113 : decode cX12_thing 113 = .ok (.ladd, 1) := by decide +kernel
theorem dX12_thing_114 : decode cX12_thing 114 = .ok (.ldc2_w 180, 3) := by decide +kernel
theorem dX12_thing_117 : decode cX12_thing 117 = .ok (.iload 5, 2) := by decide +kernel
theorem dX12_thing_119 : decode cX12_thing 119 = .ok (.i2l, 1) := by decide +kernel
theorem dX12_thing_120 : decode cX12_thing 120 = .ok (.lmul, 1) := by decide +kernel
theorem dX12_thing_121 : decode cX12_thing 121 = .ok (.ladd, 1) := by decide +kernel
theorem dX12_thing_122 : decode cX12_thing 122 = .ok (.invokevirtual 171, 3) := by decide +kernel
theorem dX12_thing_125 : decode cX12_thing 125 = .ok (.iastore, 1) := by decide +kernel
theorem dX12_thing_126 : decode cX12_thing 126 = .ok (.iinc 5 1, 3) := by decide +kernel
theorem dX12_thing_129 : decode cX12_thing 129 = .ok (.goto (-42), 3) := by decide +kernel
theorem dX12_thing_132 : decode cX12_thing 132 = .ok (.aload_n 0, 1) := by decide +kernel
theorem dX12_thing_133 : decode cX12_thing 133 = .ok (.getfield 126, 3) := by decide +kernel
theorem dX12_thing_136 : decode cX12_thing 136 = .ok (.ifCond .ne 12, 3) := by decide +kernel
theorem dX12_thing_139 : decode cX12_thing 139 = .ok (.aload_n 0, 1) := by decide +kernel
theorem dX12_thing_140 : decode cX12_thing 140 = .ok (.iload_n 3, 1) := by decide +kernel
theorem dX12_thing_141 : decode cX12_thing 141 = .ok (.i2l, 1) := by decide +kernel
theorem dX12_thing_142 : decode cX12_thing 142 = .ok (.invokevirtual 139, 3) := by decide +kernel
theorem dX12_thing_145 : decode cX12_thing 145 = .ok (.goto 4, 3) := by decide +kernel
theorem dX12_thing_148 : decode cX12_thing 148 = .ok (.iconst 0, 1) := by decide +kernel
theorem dX12_thing_149 : decode cX12_thing 149 = .ok (.istore 5, 2) := by decide +kernel
theorem dX12_thing_151 : decode cX12_thing 151 = .ok (.aload_n 0, 1) := by decide +kernel
theorem dX12_thing_152 : decode cX12_thing 152 = .ok (.getfield 126, 3) := by decide +kernel
theorem dX12_thing_155 : decode cX12_thing 155 = .ok (.ifCond .ne 19, 3) := by decide +kernel
theorem dX12_thing_158 : decode cX12_thing 158 = .ok (.iload 5, 2) := by decide +kernel
theorem dX12_thing_160 : decode cX12_thing 160 = .ok (.invokestatic 203, 3) := by decide +kernel
theorem dX12_thing_163 : decode cX12_thing 163 = .ok (.ifCond .eq 11, 3) := by decide +kernel
theorem dX12_thing_166 : decode cX12_thing 166 = .ok (.aload_n 0, 1) := by decide +kernel
theorem dX12_thing_167 : decode cX12_thing 167 = .ok (.iload_n 3, 1) := by decide +kernel
theorem dX12_thing_168 : decode cX12_thing 168 = .ok (.invokevirtual 248, 3) := by decide +kernel
theorem dX12_thing_171 : decode cX12_thing 171 = .ok (.goto 20, 3) := by decide +kernel
theorem dX12_thing_174 : decode cX12_thing 174 = .ok (.aload_n 0, 1) := by decide +kernel
theorem dX12_thing_175 : decode cX12_thing 175 = .ok (.getfield 126, 3) := by decide +kernel
theorem dX12_thing_178 : decode cX12_thing 178 = .ok (.ifCond .ne 13, 3) := by decide +kernel
theorem dX12_thing_181 : decode cX12_thing 181 = .ok (.aload_n 0, 1) := by decide +kernel
theorem dX12_thing_182 : decode cX12_thing 182 = .ok (.iload_n 3, 1) := by decide +kernel
theorem dX12_thing_183 : decode cX12_thing 183 = .ok (.iload 4, 2) := by decide +kernel
theorem dX12_thing_185 : decode cX12_thing 185 = .ok (.sipush 255, 3) := by decide +kernel
theorem dX12_thing_188 : decode cX12_thing 188 = .ok (.invokevirtual 216, 3) := by decide +kernel
theorem dX12_thing_191 : decode cX12_thing 191 = .ok (.return_, 1) := by decide +kernel
theorem dX12_value_0 : decode cX12_value 0 = .ok (.aload_n 0, 1) := by decide +kernel
theorem dX12_value_1 : decode cX12_value 1 = .ok (.aload_n 0, 1) := by decide +kernel
theorem dX12_value_2 : decode cX12_value 2 = .ok (.getfield 251, 3) := by decide +kernel
theorem dX12_value_5 : decode cX12_value 5 = .ok (.invokevirtual 139, 3) := by decide +kernel
theorem dX12_value_8 : decode cX12_value 8 = .ok (.istore_n 1, 1) := by decide +kernel
theorem dX12_value_9 : decode cX12_value 9 = .ok (.aload_n 0, 1) := by decide +kernel
theorem dX12_value_10 : decode cX12_value 10 = .ok (.dup, 1) := by decide +kernel
theorem dX12_value_11 : decode cX12_value 11 = .ok (.getfield 251, 3) := by decide +kernel
theorem dX12_value_14 : decode cX12_value 14 = .ok (.lconst 1, 1) := by decide +kernel
theorem dX12_value_15 : decode cX12_value 15 = .ok (.ladd, 1) := by decide +kernel
theorem dX12_value_16 : decode cX12_value 16 = .ok (.putfield 251, 3) := by decide +kernel
theorem dX12_value_19 : decode cX12_value 19 = .ok (.iload_n 1, 1) := by decide +kernel
theorem dX12_value_20 : decode cX12_value 20 = .ok (.iconst 1, 1) := by decide +kernel
theorem dX12_value_21 : decode cX12_value 21 = .ok (.if_icmp .ne 25, 3) := by decide +kernel
theorem dX12_value_24 : decode cX12_value 24 = .ok (.aload_n 0, 1) := by decide +kernel
theorem dX12_value_25 : decode cX12_value 25 = .ok (.dup, 1) := by decide +kernel
theorem dX12_value_26 : decode cX12_value 26 = .ok (.getfield 251, 3) := by decide +kernel
theorem dX12_value_29 : decode cX12_value 29 = .ok (.lconst 1, 1) := by decide +kernel
theorem dX12_value_30 : decode cX12_value 30 = .ok (.ladd, 1) := by decide +kernel
theorem dX12_value_31 : decode cX12_value 31 = .ok (.putfield 251, 3) := by decide +kernel
theorem dX12_value_34 : decode cX12_value 34 = .ok (.aload_n 0, 1) := by decide +kernel
theorem dX12_value_35 : decode cX12_value 35 = .ok (.aload_n 0, 1) := by decide +kernel
theorem dX12_value_36 : decode cX12_value 36 = .ok (.getfield 251, 3) := by decide +kernel
theorem dX12_value_39 : decode cX12_value 39 = .ok (.lconst 1, 1) := by decide +kernel
theorem dX12_value_40 : decode cX12_value 40 = .ok (.lsub, 1) := by decide +kernel
theorem dX12_value_41 : decode cX12_value 41 = .ok (.invokevirtual 139, 3) := by decide +kernel
theorem dX12_value_44 : decode cX12_value 44 = .ok (.i2b, 1) := by decide +kernel
theorem dX12_value_45 : decode cX12_value 45 = .ok (.ireturn, 1) := by decide +kernel
theorem dX12_value_46 : decode cX12_value 46 = .ok (.iload_n 1, 1) := by decide +kernel
theorem dX12_value_47 : decode cX12_value 47 = .ok (.iconst 2, 1) := by decide +kernel
theorem dX12_value_48 : decode cX12_value 48 = .ok (.if_icmp .ne 28, 3) := by decide +kernel
theorem dX12_value_51 : decode cX12_value 51 = .ok (.aload_n 0, 1) := by decide +kernel
theorem dX12_value_52 : decode cX12_value 52 = .ok (.dup, 1) := by decide +kernel
theorem dX12_value_53 : decode cX12_value 53 = .ok (.getfield 251, 3) := by decide +kernel
theorem dX12_value_56 : decode cX12_value 56 = .ok (.ldc2_w 180, 3) := by decide +kernel
theorem dX12_value_59 : decode cX12_value 59 = .ok (.ladd, 1) := by decide +kernel
theorem dX12_value_60 : decode cX12_value 60 = .ok (.putfield 251, 3) := by decide +kernel
theorem dX12_value_63 : decode cX12_value 63 = .ok (.aload_n 0, 1) := by decide +kernel
theorem dX12_value_64 : decode cX12_value 64 = .ok (.aload_n 0, 1) := by decide +kernel
theorem dX12_value_65 : decode cX12_value 65 = .ok (.getfield 251, 3) := by decide +kernel
theorem dX12_value_68 : decode cX12_value 68 = .ok (.ldc2_w 180, 3) := by decide +kernel
theorem dX12_value_71 : decode cX12_value 71 = .ok (.lsub, 1) := by decide +kernel
theorem dX12_value_72 : decode cX12_value 72 = .ok (.invokevirtual 171, 3) := by decide +kernel
theorem dX12_value_75 : decode cX12_value 75 = .ok (.ireturn, 1) := by decide +kernel
theorem dX12_value_76 : decode cX12_value 76 = .ok (.iload_n 1, 1) := by decide +kernel
theorem dX12_value_77 : decode cX12_value 77 = .ok (.iconst 3, 1) := by decide +kernel
theorem dX12_value_78 : decode cX12_value 78 = .ok (.if_icmp .ne 58, 3) := by decide +kernel
theorem dX12_value_81 : decode cX12_value 81 = .ok (.aload_n 0, 1) := by decide +kernel
theorem dX12_value_82 : decode cX12_value 82 = .ok (.aload_n 0, 1) := by decide +kernel
theorem dX12_value_83 : decode cX12_value 83 = .ok (.getfield 251, 3) := by decide +kernel
theorem dX12_value_86 : decode cX12_value 86 = .ok (.invokevirtual 139, 3) := by decide +kernel
theorem dX12_value_89 : decode cX12_value 89 = .ok (.istore_n 2, 1) := by decide +kernel
theorem dX12_value_90 : decode cX12_value 90 = .ok (.aload_n 0, 1) := by decide +kernel
theorem dX12_value_91 : decode cX12_value 91 = .ok (.dup, 1) := by decide +kernel
theorem dX12_value_92 : decode cX12_value 92 = .ok (.getfield 251, 3) := by decide +kernel
theorem dX12_value_95 : decode cX12_value 95 = .ok (.lconst 1, 1) := by decide +kernel
theorem dX12_value_96 : decode cX12_value 96 = .ok (.ladd, 1) := by decide +kernel
theorem dX12_value_97 : decode cX12_value 97 = .ok (.putfield 251, 3) := by decide +kernel
theorem dX12_value_100 : decode cX12_value 100 = .ok (.iload_n 2, 1) := by decide +kernel
theorem dX12_value_101 : decode cX12_value 101 = .ok (.aload_n 0, 1) := by decide +kernel
theorem dX12_value_102 : decode cX12_value 102 = .ok (.getfield 35, 3) := by decide +kernel
theorem dX12_value_105 : decode cX12_value 105 = .ok (.aload_n 0, 1) := by decide +kernel
theorem dX12_value_106 : decode cX12_value 106 = .ok (.getfield 254, 3) := by decide +kernel
theorem dX12_value_109 : decode cX12_value 109 = .ok (.iaload, 1) := by decide +kernel
theorem dX12_value_110 : decode cX12_value 110 = .ok (.if_icmp .ge 18, 3) := by decide +kernel
theorem dX12_value_113 : decode cX12_value 113 = .ok (.aload_n 0, 1) := by decide +kernel
theorem dX12_value_114 : decode cX12_value 114 = .ok (.getfield 38, 3) := by decide +kernel
theorem dX12_value_117 : decode cX12_value 117 = .ok (.bipush 8, 2) := by decide +kernel
theorem dX12_value_119 : decode cX12_value 119 = .ok (.aload_n 0, 1) := by decide +kernel
theorem dX12_value_120 : decode cX12_value 120 = .ok (.getfield 254, 3) := by decide +kernel
theorem dX12_value_123 : decode cX12_value 123 = .ok (.imul, 1) := by decide +kernel
theorem dX12_value_124 : decode cX12_value 124 = .ok (.iload_n 2, 1) := by decide +kernel
theorem dX12_value_125 : decode cX12_value 125 = .ok (.iadd, 1) := by decide +kernel
theorem dX12_value_126 : decode cX12_value 126 = .ok (.iaload, 1) := by decide +kernel
theorem dX12_value_127 : decode cX12_value 127 = .ok (.ireturn, 1) := by decide +kernel
theorem dX12_value_128 : decode cX12_value 128 = .ok (.aload_n 0, 1) := by decide +kernel
theorem dX12_value_129 : decode cX12_value 129 = .ok (.bipush 6, 2) := by decide +kernel
theorem dX12_value_131 : decode cX12_value 131 = .ok (.invokevirtual 135, 3) := by decide +kernel
theorem dX12_value_134 : decode cX12_value 134 = .ok (.iconst 0, 1) := by decide +kernel
theorem dX12_value_135 : decode cX12_value 135 = .ok (.ireturn, 1) := by decide +kernel
theorem dX12_value_136 : decode cX12_value 136 = .ok (.iload_n 1, 1) := by decide +kernel
theorem dX12_value_137 : decode cX12_value 137 = .ok (.ifCond .eq 9, 3) := by decide +kernel
theorem dX12_value_140 : decode cX12_value 140 = .ok (.aload_n 0, 1) := by decide +kernel
theorem dX12_value_141 : decode cX12_value 141 = .ok (.bipush 6, 2) := by decide +kernel
theorem dX12_value_143 : decode cX12_value 143 = .ok (.invokevirtual 135, 3) := by decide +kernel
theorem dX12_value_146 : decode cX12_value 146 = .ok (.iconst 0, 1) := by decide +kernel
theorem dX12_value_147 : decode cX12_value 147 = .ok (.ireturn, 1) := by decide +kernel
theorem dX12_target_0 : decode cX12_target 0 = .ok (.aload_n 0, 1) := by decide +kernel
theorem dX12_target_1 : decode cX12_target 1 = .ok (.aload_n 0, 1) := by decide +kernel
theorem dX12_target_2 : decode cX12_target 2 = .ok (.getfield 251, 3) := by decide +kernel
theorem dX12_target_5 : decode cX12_target 5 = .ok (.invokevirtual 139, 3) := by decide +kernel
theorem dX12_target_8 : decode cX12_target 8 = .ok (.istore_n 1, 1) := by decide +kernel
theorem dX12_target_9 : decode cX12_target 9 = .ok (.aload_n 0, 1) := by decide +kernel
theorem dX12_target_10 : decode cX12_target 10 = .ok (.dup, 1) := by decide +kernel
theorem dX12_target_11 : decode cX12_target 11 = .ok (.getfield 251, 3) := by decide +kernel
theorem dX12_target_14 : decode cX12_target 14 = .ok (.lconst 1, 1) := by decide +kernel
theorem dX12_target_15 : decode cX12_target 15 = .ok (.ladd, 1) := by decide +kernel
theorem dX12_target_16 : decode cX12_target 16 = .ok (.putfield 251, 3) := by decide +kernel
theorem dX12_target_19 : decode cX12_target 19 = .ok (.iload_n 1, 1) := by decide +kernel
theorem dX12_target_20 : decode cX12_target 20 = .ok (.sipush 255, 3) := by decide +kernel
theorem dX12_target_23 : decode cX12_target 23 = .ok (.if_icmp .eq 22, 3) := by decide +kernel
theorem dX12_target_26 : decode cX12_target 26 = .ok (.iload_n 1, 1) := by decide +kernel
theorem dX12_target_27 : decode cX12_target 27 = .ok (.aload_n 0, 1) := by decide +kernel
theorem dX12_target_28 : decode cX12_target 28 = .ok (.getfield 35, 3) := by decide +kernel
theorem dX12_target_31 : decode cX12_target 31 = .ok (.aload_n 0, 1) := by decide +kernel
theorem dX12_target_32 : decode cX12_target 32 = .ok (.getfield 254, 3) := by decide +kernel
theorem dX12_target_35 : decode cX12_target 35 = .ok (.iaload, 1) := by decide +kernel
theorem dX12_target_36 : decode cX12_target 36 = .ok (.if_icmp .lt 9, 3) := by decide +kernel
theorem dX12_target_39 : decode cX12_target 39 = .ok (.aload_n 0, 1) := by decide +kernel
theorem dX12_target_40 : decode cX12_target 40 = .ok (.bipush 6, 2) := by decide +kernel
theorem dX12_target_42 : decode cX12_target 42 = .ok (.invokevirtual 135, 3) := by decide +kernel
theorem dX12_target_45 : decode cX12_target 45 = .ok (.iload_n 1, 1) := by decide +kernel
theorem dX12_target_46 : decode cX12_target 46 = .ok (.ireturn, 1) := by decide +kernel
theorem dX12_way_0 : decode cX12_way 0 = .ok (.aload_n 0, 1) := by decide +kernel
theorem dX12_way_1 : decode cX12_way 1 = .ok (.aload_n 0, 1) := by decide +kernel
theorem dX12_way_2 : decode cX12_way 2 = .ok (.getfield 251, 3) := by decide +kernel
theorem dX12_way_5 : decode cX12_way 5 = .ok (.invokevirtual 139, 3) := by decide +kernel
theorem dX12_way_8 : decode cX12_way 8 = .ok (.i2b, 1) := by decide +kernel
theorem dX12_way_9 : decode cX12_way 9 = .ok (.istore_n 1, 1) := by decide +kernel
theorem dX12_way_10 : decode cX12_way 10 = .ok (.aload_n 0, 1) := by decide +kernel
theorem dX12_way_11 : decode cX12_way 11 = .ok (.aload_n 0, 1) := by decide +kernel
theorem dX12_way_12 : decode cX12_way 12 = .ok (.getfield 251, 3) := by decide +kernel
theorem dX12_way_15 : decode cX12_way 15 = .ok (.lconst 1, 1) := by decide +kernel
theorem dX12_way_16 : decode cX12_way 16 = .ok (.ladd, 1) := by decide +kernel
theorem dX12_way_17 : decode cX12_way 17 = .ok (.invokevirtual 139, 3) := by decide +kernel
theorem dX12_way_20 : decode cX12_way 20 = .ok (.istore_n 2, 1) := by decide +kernel
theorem dX12_way_21 : decode cX12_way 21 = .ok (.aload_n 0, 1) := by decide +kernel
theorem dX12_way_22 : decode cX12_way 22 = .ok (.dup, 1) := by decide +kernel
theorem dX12_way_23 : decode cX12_way 23 = .ok (.getfield 251, 3) := by decide +kernel
theorem dX12_way_26 : decode cX12_way 26 = .ok (.ldc2_w 192, 3) := by decide +kernel
theorem dX12_way_29 : decode cX12_way 29 = .ok (.ladd, 1) := by decide +kernel
theorem dX12_way_30 : decode cX12_way 30 = .ok (.putfield 251, 3) := by decide +kernel
theorem dX12_way_33 : decode cX12_way 33 = .ok (.iload_n 1, 1) := by decide +kernel
theorem dX12_way_34 : decode cX12_way 34 = .ok (.sipush 256, 3) := by decide +kernel
theorem dX12_way_37 : decode cX12_way 37 = .ok (.imul, 1) := by decide +kernel
theorem dX12_way_38 : decode cX12_way 38 = .ok (.iload_n 2, 1) := by decide +kernel
theorem dX12_way_39 : decode cX12_way 39 = .ok (.iadd, 1) := by decide +kernel
theorem dX12_way_40 : decode cX12_way 40 = .ok (.ireturn, 1) := by decide +kernel
theorem dX12_put_0 : decode cX12_put 0 = .ok (.aload_n 0, 1) := by decide +kernel
theorem dX12_put_1 : decode cX12_put 1 = .ok (.getfield 126, 3) := by decide +kernel
theorem dX12_put_4 : decode cX12_put 4 = .ok (.ifCond .ne 25, 3) := by decide +kernel
theorem dX12_put_7 : decode cX12_put 7 = .ok (.iload_n 1, 1) := by decide +kernel
theorem dX12_put_8 : decode cX12_put 8 = .ok (.sipush 255, 3) := by decide +kernel
theorem dX12_put_11 : decode cX12_put 11 = .ok (.if_icmp .eq 18, 3) := by decide +kernel
theorem dX12_put_14 : decode cX12_put 14 = .ok (.aload_n 0, 1) := by decide +kernel
theorem dX12_put_15 : decode cX12_put 15 = .ok (.getfield 38, 3) := by decide +kernel
theorem dX12_put_18 : decode cX12_put 18 = .ok (.bipush 8, 2) := by decide +kernel
theorem dX12_put_20 : decode cX12_put 20 = .ok (.aload_n 0, 1) := by decide +kernel
theorem dX12_put_21 : decode cX12_put 21 = .ok (.getfield 254, 3) := by decide +kernel
theorem dX12_put_24 : decode cX12_put 24 = .ok (.imul, 1) := by decide +kernel
theorem dX12_put_25 : decode cX12_put 25 = .ok (.iload_n 1, 1) := by decide +kernel
theorem dX12_put_26 : decode cX12_put 26 = .ok (.iadd, 1) := by decide +kernel
theorem dX12_put_27 : decode cX12_put 27 = .ok (.iload_n 2, 1) := by decide +kernel
theorem dX12_put_28 : decode cX12_put 28 = .ok (.iastore, 1) := by decide +kernel
theorem dX12_put_29 : decode cX12_put 29 = .ok (.return_, 1) := by decide +kernel
theorem dX12_order_0 : decode cX12_order 0 = .ok (.aload_n 0, 1) := by decide +kernel
theorem dX12_order_1 : decode cX12_order 1 = .ok (.iload_n 1, 1) := by decide +kernel
theorem dX12_order_2 : decode cX12_order 2 = .ok (.putfield 254, 3) := by decide +kernel
theorem dX12_order_5 : decode cX12_order 5 = .ok (.aload_n 0, 1) := by decide +kernel
theorem dX12_order_6 : decode cX12_order 6 = .ok (.aload_n 0, 1) := by decide +kernel
theorem dX12_order_7 : decode cX12_order 7 = .ok (.getfield 29, 3) := by decide +kernel
theorem dX12_order_10 : decode cX12_order 10 = .ok (.iload_n 1, 1) := by decide +kernel
theorem dX12_order_11 : decode cX12_order 11 = .ok (.iaload, 1) := by decide +kernel
theorem dX12_order_12 : decode cX12_order 12 = .ok (.i2l, 1) := by decide +kernel
theorem dX12_order_13 : decode cX12_order 13 = .ok (.putfield 251, 3) := by decide +kernel
theorem dX12_order_16 : decode cX12_order 16 = .ok (.aload_n 0, 1) := by decide +kernel
theorem dX12_order_17 : decode cX12_order 17 = .ok (.aload_n 0, 1) := by decide +kernel
theorem dX12_order_18 : decode cX12_order 18 = .ok (.getfield 251, 3) := by decide +kernel
theorem dX12_order_21 : decode cX12_order 21 = .ok (.invokevirtual 139, 3) := by decide +kernel
theorem dX12_order_24 : decode cX12_order 24 = .ok (.istore_n 2, 1) := by decide +kernel
theorem dX12_order_25 : decode cX12_order 25 = .ok (.aload_n 0, 1) := by decide +kernel
theorem dX12_order_26 : decode cX12_order 26 = .ok (.dup, 1) := by decide +kernel
theorem dX12_order_27 : decode cX12_order 27 = .ok (.getfield 251, 3) := by decide +kernel
theorem dX12_order_30 : decode cX12_order 30 = .ok (.lconst 1, 1) := by decide +kernel
theorem dX12_order_31 : decode cX12_order 31 = .ok (.ladd, 1) := by decide +kernel
theorem dX12_order_32 : decode cX12_order 32 = .ok (.putfield 251, 3) := by decide +kernel
theorem dX12_order_35 : decode cX12_order 35 = .ok (.aload_n 0, 1) := by decide +kernel
theorem dX12_order_36 : decode cX12_order 36 = .ok (.getfield 126, 3) := by decide +kernel
theorem dX12_order_39 : decode cX12_order 39 = .ok (.ifCond .ne 15, 3) := by decide +kernel
theorem dX12_order_42 : decode cX12_order 42 = .ok (.iload_n 2, 1) := by decide +kernel
theorem dX12_order_43 : decode cX12_order 43 = .ok (.bipush 17, 2) := by decide +kernel
theorem dX12_order_45 : decode cX12_order 45 = .ok (.if_icmp .le 9, 3) := by decide +kernel
theorem dX12_order_48 : decode cX12_order 48 = .ok (.aload_n 0, 1) := by decide +kernel
theorem dX12_order_49 : decode cX12_order 49 = .ok (.bipush 6, 2) := by decide +kernel
theorem dX12_order_51 : decode cX12_order 51 = .ok (.invokevirtual 135, 3) := by decide +kernel
theorem dX12_order_54 : decode cX12_order 54 = .ok (.iload_n 2, 1) := by decide +kernel
theorem dX12_order_55 : decode cX12_order 55 = .ok (.bipush 16, 2) := by decide +kernel
theorem dX12_order_57 : decode cX12_order 57 = .ok (.if_icmp .ge 17, 3) := by decide +kernel
theorem dX12_order_60 : decode cX12_order 60 = .ok (.aload_n 0, 1) := by decide +kernel
theorem dX12_order_61 : decode cX12_order 61 = .ok (.getfield 126, 3) := by decide +kernel
theorem dX12_order_64 : decode cX12_order 64 = .ok (.ifCond .ne 10, 3) := by decide +kernel
theorem dX12_order_67 : decode cX12_order 67 = .ok (.aload_n 0, 1) := by decide +kernel
theorem dX12_order_68 : decode cX12_order 68 = .ok (.invokevirtual 257, 3) := by decide +kernel
theorem dX12_order_71 : decode cX12_order 71 = .ok (.goto 4, 3) := by decide +kernel
theorem dX12_order_74 : decode cX12_order 74 = .ok (.iconst 0, 1) := by decide +kernel
theorem dX12_order_75 : decode cX12_order 75 = .ok (.istore_n 3, 1) := by decide +kernel
theorem dX12_order_76 : decode cX12_order 76 = .ok (.iload_n 2, 1) := by decide +kernel
theorem dX12_order_77 : decode cX12_order 77 = .ok (.iconst 4, 1) := by decide +kernel
theorem dX12_order_78 : decode cX12_order 78 = .ok (.if_icmp .eq 27, 3) := by decide +kernel
theorem dX12_order_81 : decode cX12_order 81 = .ok (.iload_n 2, 1) := by decide +kernel
theorem dX12_order_82 : decode cX12_order 82 = .ok (.bipush 8, 2) := by decide +kernel
theorem dX12_order_84 : decode cX12_order 84 = .ok (.if_icmp .eq 21, 3) := by decide +kernel
theorem dX12_order_87 : decode cX12_order 87 = .ok (.iload_n 2, 1) := by decide +kernel
theorem dX12_order_88 : decode cX12_order 88 = .ok (.bipush 9, 2) := by decide +kernel
theorem dX12_order_90 : decode cX12_order 90 = .ok (.if_icmp .eq 15, 3) := by decide +kernel
theorem dX12_order_93 : decode cX12_order 93 = .ok (.iload_n 2, 1) := by decide +kernel
theorem dX12_order_94 : decode cX12_order 94 = .ok (.bipush 12, 2) := by decide +kernel
theorem dX12_order_96 : decode cX12_order 96 = .ok (.if_icmp .eq 9, 3) := by decide +kernel
theorem dX12_order_99 : decode cX12_order 99 = .ok (.iload_n 2, 1) := by decide +kernel
theorem dX12_order_100 : decode cX12_order 100 = .ok (.bipush 15, 2) := by decide +kernel
theorem dX12_order_102 : decode cX12_order 102 = .ok (.if_icmp .ne 7, 3) := by decide +kernel
theorem dX12_order_105 : decode cX12_order 105 = .ok (.iconst 1, 1) := by decide +kernel
theorem dX12_order_106 : decode cX12_order 106 = .ok (.goto 4, 3) := by decide +kernel
theorem dX12_order_109 : decode cX12_order 109 = .ok (.iconst 0, 1) := by decide +kernel
theorem dX12_order_110 : decode cX12_order 110 = .ok (.istore 4, 2) := by decide +kernel
theorem dX12_order_112 : decode cX12_order 112 = .ok (.iload 4, 2) := by decide +kernel
theorem dX12_order_114 : decode cX12_order 114 = .ok (.ifCond .eq 17, 3) := by decide +kernel
theorem dX12_order_117 : decode cX12_order 117 = .ok (.aload_n 0, 1) := by decide +kernel
theorem dX12_order_118 : decode cX12_order 118 = .ok (.getfield 126, 3) := by decide +kernel
theorem dX12_order_121 : decode cX12_order 121 = .ok (.ifCond .ne 10, 3) := by decide +kernel
theorem dX12_order_124 : decode cX12_order 124 = .ok (.aload_n 0, 1) := by decide +kernel
theorem dX12_order_125 : decode cX12_order 125 = .ok (.invokevirtual 257, 3) := by decide +kernel
theorem dX12_order_128 : decode cX12_order 128 = .ok (.goto 4, 3) := by decide +kernel
theorem dX12_order_131 : decode cX12_order 131 = .ok (.iconst 0, 1) := by decide +kernel
theorem dX12_order_132 : decode cX12_order 132 = .ok (.istore 5, 2) := by decide +kernel
theorem dX12_order_134 : decode cX12_order 134 = .ok (.iconst 0, 1) := by decide +kernel
theorem dX12_order_135 : decode cX12_order 135 = .ok (.istore 6, 2) := by decide +kernel
theorem dX12_order_137 : decode cX12_order 137 = .ok (.iload_n 2, 1) := by decide +kernel
theorem dX12_order_138 : decode cX12_order 138 = .ok (.bipush 6, 2) := by decide +kernel
theorem dX12_order_140 : decode cX12_order 140 = .ok (.if_icmp .ne 76, 3) := by decide +kernel
theorem dX12_order_143 : decode cX12_order 143 = .ok (.aload_n 0, 1) := by decide +kernel
theorem dX12_order_144 : decode cX12_order 144 = .ok (.aload_n 0, 1) := by decide +kernel
theorem dX12_order_145 : decode cX12_order 145 = .ok (.getfield 251, 3) := by decide +kernel
theorem dX12_order_148 : decode cX12_order 148 = .ok (.invokevirtual 139, 3) := by decide +kernel
theorem dX12_order_151 : decode cX12_order 151 = .ok (.istore 6, 2) := by decide +kernel
theorem dX12_order_153 : decode cX12_order 153 = .ok (.aload_n 0, 1) := by decide +kernel
theorem dX12_order_154 : decode cX12_order 154 = .ok (.dup, 1) := by decide +kernel
theorem dX12_order_155 : decode cX12_order 155 = .ok (.getfield 251, 3) := by decide +kernel
theorem dX12_order_158 : decode cX12_order 158 = .ok (.lconst 1, 1) := by decide +kernel
theorem dX12_order_159 : decode cX12_order 159 = .ok (.ladd, 1) := by decide +kernel
theorem dX12_order_160 : decode cX12_order 160 = .ok (.putfield 251, 3) := by decide +kernel
theorem dX12_order_163 : decode cX12_order 163 = .ok (.aload_n 0, 1) := by decide +kernel
theorem dX12_order_164 : decode cX12_order 164 = .ok (.getfield 126, 3) := by decide +kernel
theorem dX12_order_167 : decode cX12_order 167 = .ok (.ifCond .ne 15, 3) := by decide +kernel
theorem dX12_order_170 : decode cX12_order 170 = .ok (.iload 6, 2) := by decide +kernel
theorem dX12_order_172 : decode cX12_order 172 = .ok (.iconst 4, 1) := by decide +kernel
theorem dX12_order_173 : decode cX12_order 173 = .ok (.if_icmp .le 9, 3) := by decide +kernel
theorem dX12_order_176 : decode cX12_order 176 = .ok (.aload_n 0, 1) := by decide +kernel
theorem dX12_order_177 : decode cX12_order 177 = .ok (.bipush 6, 2) := by decide +kernel
theorem dX12_order_179 : decode cX12_order 179 = .ok (.invokevirtual 135, 3) := by decide +kernel
theorem dX12_order_182 : decode cX12_order 182 = .ok (.iconst 0, 1) := by decide +kernel
theorem dX12_order_183 : decode cX12_order 183 = .ok (.istore 7, 2) := by decide +kernel
theorem dX12_order_185 : decode cX12_order 185 = .ok (.iload 7, 2) := by decide +kernel
theorem dX12_order_187 : decode cX12_order 187 = .ok (.iload 6, 2) := by decide +kernel
theorem dX12_order_189 : decode cX12_order 189 = .ok (.if_icmp .ge 27, 3) := by decide +kernel
theorem dX12_order_192 : decode cX12_order 192 = .ok (.aload_n 0, 1) := by decide +kernel
theorem dX12_order_193 : decode cX12_order 193 = .ok (.getfield 126, 3) := by decide +kernel
theorem dX12_order_196 : decode cX12_order 196 = .ok (.ifCond .ne 20, 3) := by decide +kernel
theorem dX12_order_199 : decode cX12_order 199 = .ok (.aload_n 0, 1) := by decide +kernel
theorem dX12_order_200 : decode cX12_order 200 = .ok (.getfield 53, 3) := by decide +kernel
theorem dX12_order_203 : decode cX12_order 203 = .ok (.iload 7, 2) := by decide +kernel
theorem dX12_order_205 : decode cX12_order 205 = .ok (.aload_n 0, 1) := by decide +kernel
theorem dX12_order_206 : decode cX12_order 206 = .ok (.invokevirtual 257, 3) := by decide +kernel
theorem dX12_order_209 : decode cX12_order 209 = .ok (.iastore, 1) := by decide +kernel
theorem dX12_order_210 : decode cX12_order 210 = .ok (.iinc 7 1, 3) := by decide +kernel
theorem dX12_order_213 : decode cX12_order 213 = .ok (.goto (-28), 3) := by decide +kernel
theorem dX12_order_216 : decode cX12_order 216 = .ok (.iload_n 2, 1) := by decide +kernel
theorem dX12_order_217 : decode cX12_order 217 = .ok (.bipush 6, 2) := by decide +kernel
theorem dX12_order_219 : decode cX12_order 219 = .ok (.if_icmp .lt 9, 3) := by decide +kernel
theorem dX12_order_222 : decode cX12_order 222 = .ok (.iload_n 2, 1) := by decide +kernel
theorem dX12_order_223 : decode cX12_order 223 = .ok (.bipush 9, 2) := by decide +kernel
theorem dX12_order_225 : decode cX12_order 225 = .ok (.if_icmp .le 21, 3) := by decide +kernel
theorem dX12_order_228 : decode cX12_order 228 = .ok (.iload_n 2, 1) := by decide +kernel
theorem dX12_order_229 : decode cX12_order 229 = .ok (.bipush 13, 2) := by decide +kernel
theorem dX12_order_231 : decode cX12_order 231 = .ok (.if_icmp .eq 15, 3) := by decide +kernel
theorem dX12_order_234 : decode cX12_order 234 = .ok (.iload_n 2, 1) := by decide +kernel
theorem dX12_order_235 : decode cX12_order 235 = .ok (.bipush 14, 2) := by decide +kernel
theorem dX12_order_237 : decode cX12_order 237 = .ok (.if_icmp .eq 9, 3) := by decide +kernel
theorem dX12_order_240 : decode cX12_order 240 = .ok (.iload_n 2, 1) := by decide +kernel
theorem dX12_order_241 : decode cX12_order 241 = .ok (.bipush 16, 2) := by decide +kernel
theorem dX12_order_243 : decode cX12_order 243 = .ok (.if_icmp .ne 7, 3) := by decide +kernel
theorem dX12_order_246 : decode cX12_order 246 = .ok (.iconst 1, 1) := by decide +kernel
theorem dX12_order_247 : decode cX12_order 247 = .ok (.goto 4, 3) := by decide +kernel
theorem dX12_order_250 : decode cX12_order 250 = .ok (.iconst 0, 1) := by decide +kernel
theorem dX12_order_251 : decode cX12_order 251 = .ok (.istore 7, 2) := by decide +kernel
theorem dX12_order_253 : decode cX12_order 253 = .ok (.iload 7, 2) := by decide +kernel
theorem dX12_order_255 : decode cX12_order 255 = .ok (.ifCond .eq 17, 3) := by decide +kernel
theorem dX12_order_258 : decode cX12_order 258 = .ok (.aload_n 0, 1) := by decide +kernel
theorem dX12_order_259 : decode cX12_order 259 = .ok (.getfield 126, 3) := by decide +kernel
theorem dX12_order_262 : decode cX12_order 262 = .ok (.ifCond .ne 10, 3) := by decide +kernel
theorem dX12_order_265 : decode cX12_order 265 = .ok (.aload_n 0, 1) := by decide +kernel
theorem dX12_order_266 : decode cX12_order 266 = .ok (.invokevirtual 261, 3) := by decide +kernel
theorem dX12_order_269 : decode cX12_order 269 = .ok (.goto 6, 3) := by decide +kernel
theorem dX12_order_272 : decode cX12_order 272 = .ok (.sipush 255, 3) := by decide +kernel
theorem dX12_order_275 : decode cX12_order 275 = .ok (.istore 8, 2) := by decide +kernel
theorem dX12_order_277 : decode cX12_order 277 = .ok (.iload_n 2, 1) := by decide +kernel
theorem dX12_order_278 : decode cX12_order 278 = .ok (.bipush 10, 2) := by decide +kernel
theorem dX12_order_280 : decode cX12_order 280 = .ok (.if_icmp .lt 23, 3) := by decide +kernel
theorem dX12_order_283 : decode cX12_order 283 = .ok (.iload_n 2, 1) := by decide +kernel
theorem dX12_order_284 : decode cX12_order 284 = .ok (.bipush 12, 2) := by decide +kernel
theorem dX12_order_286 : decode cX12_order 286 = .ok (.if_icmp .gt 17, 3) := by decide +kernel
theorem dX12_order_289 : decode cX12_order 289 = .ok (.aload_n 0, 1) := by decide +kernel
theorem dX12_order_290 : decode cX12_order 290 = .ok (.getfield 126, 3) := by decide +kernel
theorem dX12_order_293 : decode cX12_order 293 = .ok (.ifCond .ne 10, 3) := by decide +kernel
theorem dX12_order_296 : decode cX12_order 296 = .ok (.aload_n 0, 1) := by decide +kernel
theorem dX12_order_297 : decode cX12_order 297 = .ok (.invokevirtual 264, 3) := by decide +kernel
theorem dX12_order_300 : decode cX12_order 300 = .ok (.goto 4, 3) := by decide +kernel
theorem dX12_order_303 : decode cX12_order 303 = .ok (.iconst 0, 1) := by decide +kernel
theorem dX12_order_304 : decode cX12_order 304 = .ok (.istore 9, 2) := by decide +kernel
theorem dX12_order_306 : decode cX12_order 306 = .ok (.aload_n 0, 1) := by decide +kernel
theorem dX12_order_307 : decode cX12_order 307 = .ok (.getfield 126, 3) := by decide +kernel
theorem dX12_order_310 : decode cX12_order 310 = .ok (.ifCond .le 4, 3) := by decide +kernel
theorem dX12_order_313 : decode cX12_order 313 = .ok (.return_, 1) := by decide +kernel
theorem dX12_order_314 : decode cX12_order 314 = .ok (.iload_n 2, 1) := by decide +kernel
theorem dX12_order_315 : decode cX12_order 315 = .ok (.bipush 10, 2) := by decide +kernel
theorem dX12_order_317 : decode cX12_order 317 = .ok (.if_icmp .ne 7, 3) := by decide +kernel
theorem dX12_order_320 : decode cX12_order 320 = .ok (.iload_n 3, 1) := by decide +kernel
theorem dX12_order_321 : decode cX12_order 321 = .ok (.ifCond .eq 25, 3) := by decide +kernel
theorem dX12_order_324 : decode cX12_order 324 = .ok (.iload_n 2, 1) := by decide +kernel
theorem dX12_order_325 : decode cX12_order 325 = .ok (.bipush 11, 2) := by decide +kernel
theorem dX12_order_327 : decode cX12_order 327 = .ok (.if_icmp .ne 7, 3) := by decide +kernel
theorem dX12_order_330 : decode cX12_order 330 = .ok (.iload_n 3, 1) := by decide +kernel
theorem dX12_order_331 : decode cX12_order 331 = .ok (.ifCond .ne 15, 3) := by decide +kernel
theorem dX12_order_334 : decode cX12_order 334 = .ok (.iload_n 2, 1) := by decide +kernel
theorem dX12_order_335 : decode cX12_order 335 = .ok (.bipush 12, 2) := by decide +kernel
theorem dX12_order_337 : decode cX12_order 337 = .ok (.if_icmp .ne 13, 3) := by decide +kernel
theorem dX12_order_340 : decode cX12_order 340 = .ok (.iload_n 3, 1) := by decide +kernel
theorem dX12_order_341 : decode cX12_order 341 = .ok (.iload 5, 2) := by decide +kernel
theorem dX12_order_343 : decode cX12_order 343 = .ok (.if_icmp .ge 7, 3) := by decide +kernel
theorem dX12_order_346 : decode cX12_order 346 = .ok (.iconst 1, 1) := by decide +kernel
theorem dX12_order_347 : decode cX12_order 347 = .ok (.goto 4, 3) := by decide +kernel
theorem dX12_order_350 : decode cX12_order 350 = .ok (.iconst 0, 1) := by decide +kernel
theorem dX12_order_351 : decode cX12_order 351 = .ok (.istore 10, 2) := by decide +kernel
theorem dX12_order_353 : decode cX12_order 353 = .ok (.aload_n 0, 1) := by decide +kernel
theorem dX12_order_354 : decode cX12_order 354 = .ok (.getfield 29, 3) := by decide +kernel
theorem dX12_order_357 : decode cX12_order 357 = .ok (.iload_n 1, 1) := by decide +kernel
theorem dX12_order_358 : decode cX12_order 358 = .ok (.aload_n 0, 1) := by decide +kernel
theorem dX12_order_359 : decode cX12_order 359 = .ok (.getfield 251, 3) := by decide +kernel
theorem dX12_order_362 : decode cX12_order 362 = .ok (.iload 10, 2) := by decide +kernel
theorem dX12_order_364 : decode cX12_order 364 = .ok (.ifCond .eq 8, 3) := by decide +kernel
theorem dX12_order_367 : decode cX12_order 367 = .ok (.iload 9, 2) := by decide +kernel
theorem dX12_order_369 : decode cX12_order 369 = .ok (.goto 4, 3) := by decide +kernel
theorem dX12_order_372 : decode cX12_order 372 = .ok (.iconst 0, 1) := by decide +kernel
theorem dX12_order_373 : decode cX12_order 373 = .ok (.i2l, 1) := by decide +kernel
theorem dX12_order_374 : decode cX12_order 374 = .ok (.ladd, 1) := by decide +kernel
theorem dX12_order_375 : decode cX12_order 375 = .ok (.l2i, 1) := by decide +kernel
theorem dX12_order_376 : decode cX12_order 376 = .ok (.iastore, 1) := by decide +kernel
theorem dX12_order_377 : decode cX12_order 377 = .ok (.aload_n 0, 1) := by decide +kernel
theorem dX12_order_378 : decode cX12_order 378 = .ok (.iload_n 2, 1) := by decide +kernel
theorem dX12_order_379 : decode cX12_order 379 = .ok (.iload_n 3, 1) := by decide +kernel
theorem dX12_order_380 : decode cX12_order 380 = .ok (.iload 5, 2) := by decide +kernel
theorem dX12_order_382 : decode cX12_order 382 = .ok (.iload 6, 2) := by decide +kernel
theorem dX12_order_384 : decode cX12_order 384 = .ok (.iload 8, 2) := by decide +kernel
theorem dX12_order_386 : decode cX12_order 386 = .ok (.invokevirtual 267, 3) := by decide +kernel
theorem dX12_order_389 : decode cX12_order 389 = .ok (.return_, 1) := by decide +kernel
theorem dX12_does_0 : decode cX12_does 0 = .ok (.iload_n 1, 1) := by decide +kernel
theorem dX12_does_1 : decode cX12_does 1 = .ok (.ifCond .ne 58, 3) := by decide +kernel
theorem dX12_does_4 : decode cX12_does 4 = .ok (.aload_n 0, 1) := by decide +kernel
theorem dX12_does_5 : decode cX12_does 5 = .ok (.getfield 47, 3) := by decide +kernel
theorem dX12_does_8 : decode cX12_does 8 = .ok (.aload_n 0, 1) := by decide +kernel
theorem dX12_does_9 : decode cX12_does 9 = .ok (.getfield 254, 3) := by decide +kernel
theorem dX12_does_12 : decode cX12_does 12 = .ok (.iaload, 1) := by decide +kernel
theorem dX12_does_13 : decode cX12_does 13 = .ok (.istore 6, 2) := by decide +kernel
theorem dX12_does_15 : decode cX12_does 15 = .ok (.aload_n 0, 1) := by decide +kernel
theorem dX12_does_16 : decode cX12_does 16 = .ok (.dup, 1) := by decide +kernel
theorem dX12_does_17 : decode cX12_does 17 = .ok (.getfield 186, 3) := by decide +kernel
theorem dX12_does_20 : decode cX12_does 20 = .ok (.iconst 1, 1) := by decide +kernel
theorem dX12_does_21 : decode cX12_does 21 = .ok (.isub, 1) := by decide +kernel
theorem dX12_does_22 : decode cX12_does 22 = .ok (.putfield 186, 3) := by decide +kernel
theorem dX12_does_25 : decode cX12_does 25 = .ok (.aload_n 0, 1) := by decide +kernel
theorem dX12_does_26 : decode cX12_does 26 = .ok (.iload_n 2, 1) := by decide +kernel
theorem dX12_does_27 : decode cX12_does 27 = .ok (.putfield 271, 3) := by decide +kernel
theorem dX12_does_30 : decode cX12_does 30 = .ok (.iload 6, 2) := by decide +kernel
theorem dX12_does_32 : decode cX12_does 32 = .ok (.sipush 255, 3) := by decide +kernel
theorem dX12_does_35 : decode cX12_does 35 = .ok (.if_icmp .eq 21, 3) := by decide +kernel
theorem dX12_does_38 : decode cX12_does 38 = .ok (.aload_n 0, 1) := by decide +kernel
theorem dX12_does_39 : decode cX12_does 39 = .ok (.getfield 38, 3) := by decide +kernel
theorem dX12_does_42 : decode cX12_does 42 = .ok (.bipush 8, 2) := by decide +kernel
theorem dX12_does_44 : decode cX12_does 44 = .ok (.aload_n 0, 1) := by decide +kernel
theorem dX12_does_45 : decode cX12_does 45 = .ok (.getfield 186, 3) := by decide +kernel
theorem dX12_does_48 : decode cX12_does 48 = .ok (.iconst 1, 1) := by decide +kernel
theorem dX12_does_49 : decode cX12_does 49 = .ok (.isub, 1) := by decide +kernel
theorem dX12_does_50 : decode cX12_does 50 = .ok (.imul, 1) := by decide +kernel
theorem dX12_does_51 : decode cX12_does 51 = .ok (.iload 6, 2) := by decide +kernel
theorem dX12_does_53 : decode cX12_does 53 = .ok (.iadd, 1) := by decide +kernel
theorem dX12_does_54 : decode cX12_does 54 = .ok (.iload_n 2, 1) := by decide +kernel
theorem dX12_does_55 : decode cX12_does 55 = .ok (.iastore, 1) := by decide +kernel
theorem dX12_does_56 : decode cX12_does 56 = .ok (.goto 276, 3) := by decide +kernel
theorem dX12_does_59 : decode cX12_does 59 = .ok (.iload_n 1, 1) := by decide +kernel
theorem dX12_does_60 : decode cX12_does 60 = .ok (.iconst 1, 1) := by decide +kernel
theorem dX12_does_61 : decode cX12_does 61 = .ok (.if_icmp .ne 11, 3) := by decide +kernel
theorem dX12_does_64 : decode cX12_does 64 = .ok (.aload_n 0, 1) := by decide +kernel
theorem dX12_does_65 : decode cX12_does 65 = .ok (.iload_n 2, 1) := by decide +kernel
theorem dX12_does_66 : decode cX12_does 66 = .ok (.invokevirtual 240, 3) := by decide +kernel
theorem dX12_does_69 : decode cX12_does 69 = .ok (.goto 263, 3) := by decide +kernel
theorem dX12_does_72 : decode cX12_does 72 = .ok (.iload_n 1, 1) := by decide +kernel
theorem dX12_does_73 : decode cX12_does 73 = .ok (.iconst 2, 1) := by decide +kernel
theorem dX12_does_74 : decode cX12_does 74 = .ok (.if_icmp .ne 11, 3) := by decide +kernel
theorem dX12_does_77 : decode cX12_does 77 = .ok (.aload_n 0, 1) := by decide +kernel
theorem dX12_does_78 : decode cX12_does 78 = .ok (.iload_n 2, 1) := by decide +kernel
theorem dX12_does_79 : decode cX12_does 79 = .ok (.invokevirtual 248, 3) := by decide +kernel
theorem dX12_does_82 : decode cX12_does 82 = .ok (.goto 250, 3) := by decide +kernel
theorem dX12_does_85 : decode cX12_does 85 = .ok (.iload_n 1, 1) := by decide +kernel
theorem dX12_does_86 : decode cX12_does 86 = .ok (.iconst 3, 1) := by decide +kernel
theorem dX12_does_87 : decode cX12_does 87 = .ok (.if_icmp .ne 12, 3) := by decide +kernel
theorem dX12_does_90 : decode cX12_does 90 = .ok (.aload_n 0, 1) := by decide +kernel
theorem dX12_does_91 : decode cX12_does 91 = .ok (.iconst 4, 1) := by decide +kernel
theorem dX12_does_92 : decode cX12_does 92 = .ok (.iload_n 2, 1) := by decide +kernel
theorem dX12_does_93 : decode cX12_does 93 = .ok (.invokevirtual 207, 3) := by decide +kernel
theorem dX12_does_96 : decode cX12_does 96 = .ok (.goto 236, 3) := by decide +kernel
theorem dX12_does_99 : decode cX12_does 99 = .ok (.iload_n 1, 1) := by decide +kernel
theorem dX12_does_100 : decode cX12_does 100 = .ok (.iconst 4, 1) := by decide +kernel
theorem dX12_does_101 : decode cX12_does 101 = .ok (.if_icmp .ne 32, 3) := by decide +kernel
theorem dX12_does_104 : decode cX12_does 104 = .ok (.aload_n 0, 1) := by decide +kernel
theorem dX12_does_105 : decode cX12_does 105 = .ok (.iload_n 2, 1) := by decide +kernel
theorem dX12_does_106 : decode cX12_does 106 = .ok (.i2l, 1) := by decide +kernel
theorem dX12_does_107 : decode cX12_does 107 = .ok (.lconst 0, 1) := by decide +kernel
theorem dX12_does_108 : decode cX12_does 108 = .ok (.ldc2_w 192, 3) := by decide +kernel
theorem dX12_does_111 : decode cX12_does 111 = .ok (.invokestatic 131, 3) := by decide +kernel
theorem dX12_does_114 : decode cX12_does 114 = .ok (.ifCond .eq 7, 3) := by decide +kernel
theorem dX12_does_117 : decode cX12_does 117 = .ok (.iload_n 2, 1) := by decide +kernel
theorem dX12_does_118 : decode cX12_does 118 = .ok (.goto 4, 3) := by decide +kernel
theorem dX12_does_121 : decode cX12_does 121 = .ok (.iconst 0, 1) := by decide +kernel
theorem dX12_does_122 : decode cX12_does 122 = .ok (.putfield 194, 3) := by decide +kernel
theorem dX12_does_125 : decode cX12_does 125 = .ok (.aload_n 0, 1) := by decide +kernel
theorem dX12_does_126 : decode cX12_does 126 = .ok (.iload_n 3, 1) := by decide +kernel
theorem dX12_does_127 : decode cX12_does 127 = .ok (.putfield 197, 3) := by decide +kernel
theorem dX12_does_130 : decode cX12_does 130 = .ok (.goto 202, 3) := by decide +kernel
theorem dX12_does_133 : decode cX12_does 133 = .ok (.iload_n 1, 1) := by decide +kernel
theorem dX12_does_134 : decode cX12_does 134 = .ok (.iconst 5, 1) := by decide +kernel
theorem dX12_does_135 : decode cX12_does 135 = .ok (.if_icmp .ne 11, 3) := by decide +kernel
theorem dX12_does_138 : decode cX12_does 138 = .ok (.aload_n 0, 1) := by decide +kernel
theorem dX12_does_139 : decode cX12_does 139 = .ok (.iload_n 2, 1) := by decide +kernel
theorem dX12_does_140 : decode cX12_does 140 = .ok (.invokevirtual 189, 3) := by decide +kernel
theorem dX12_does_143 : decode cX12_does 143 = .ok (.goto 189, 3) := by decide +kernel
theorem dX12_does_146 : decode cX12_does 146 = .ok (.iload_n 1, 1) := by decide +kernel
theorem dX12_does_147 : decode cX12_does 147 = .ok (.bipush 6, 2) := by decide +kernel
theorem dX12_does_149 : decode cX12_does 149 = .ok (.if_icmp .ne 15, 3) := by decide +kernel
theorem dX12_does_152 : decode cX12_does 152 = .ok (.aload_n 0, 1) := by decide +kernel
theorem dX12_does_153 : decode cX12_does 153 = .ok (.iload_n 2, 1) := by decide +kernel
theorem dX12_does_154 : decode cX12_does 154 = .ok (.iload 4, 2) := by decide +kernel
theorem dX12_does_156 : decode cX12_does 156 = .ok (.iload 5, 2) := by decide +kernel
theorem dX12_does_158 : decode cX12_does 158 = .ok (.invokevirtual 216, 3) := by decide +kernel
theorem dX12_does_161 : decode cX12_does 161 = .ok (.goto 171, 3) := by decide +kernel
theorem dX12_does_164 : decode cX12_does 164 = .ok (.iload_n 1, 1) := by decide +kernel
theorem dX12_does_165 : decode cX12_does 165 = .ok (.bipush 7, 2) := by decide +kernel
theorem dX12_does_167 : decode cX12_does 167 = .ok (.if_icmp .ne 13, 3) := by decide +kernel
theorem dX12_does_170 : decode cX12_does 170 = .ok (.aload_n 0, 1) := by decide +kernel
theorem dX12_does_171 : decode cX12_does 171 = .ok (.iload 5, 2) := by decide +kernel
theorem dX12_does_173 : decode cX12_does 173 = .ok (.iload_n 2, 1) := by decide +kernel
theorem dX12_does_174 : decode cX12_does 174 = .ok (.invokevirtual 274, 3) := by decide +kernel
theorem dX12_does_177 : decode cX12_does 177 = .ok (.goto 155, 3) := by decide +kernel
theorem dX12_does_180 : decode cX12_does 180 = .ok (.iload_n 1, 1) := by decide +kernel
theorem dX12_does_181 : decode cX12_does 181 = .ok (.bipush 8, 2) := by decide +kernel
theorem dX12_does_183 : decode cX12_does 183 = .ok (.if_icmp .ne 15, 3) := by decide +kernel
theorem dX12_does_186 : decode cX12_does 186 = .ok (.aload_n 0, 1) := by decide +kernel
theorem dX12_does_187 : decode cX12_does 187 = .ok (.iload 5, 2) := by decide +kernel
theorem dX12_does_189 : decode cX12_does 189 = .ok (.iload_n 2, 1) := by decide +kernel
theorem dX12_does_190 : decode cX12_does 190 = .ok (.iload_n 3, 1) := by decide +kernel
theorem dX12_does_191 : decode cX12_does 191 = .ok (.iadd, 1) := by decide +kernel
theorem dX12_does_192 : decode cX12_does 192 = .ok (.invokevirtual 274, 3) := by decide +kernel
theorem dX12_does_195 : decode cX12_does 195 = .ok (.goto 137, 3) := by decide +kernel
theorem dX12_does_198 : decode cX12_does 198 = .ok (.iload_n 1, 1) := by decide +kernel
theorem dX12_does_199 : decode cX12_does 199 = .ok (.bipush 9, 2) := by decide +kernel
theorem dX12_does_201 : decode cX12_does 201 = .ok (.if_icmp .ne 15, 3) := by decide +kernel
theorem dX12_does_204 : decode cX12_does 204 = .ok (.aload_n 0, 1) := by decide +kernel
theorem dX12_does_205 : decode cX12_does 205 = .ok (.iload 5, 2) := by decide +kernel
theorem dX12_does_207 : decode cX12_does 207 = .ok (.iload_n 2, 1) := by decide +kernel
theorem dX12_does_208 : decode cX12_does 208 = .ok (.iload_n 3, 1) := by decide +kernel
theorem dX12_does_209 : decode cX12_does 209 = .ok (.isub, 1) := by decide +kernel
theorem dX12_does_210 : decode cX12_does 210 = .ok (.invokevirtual 274, 3) := by decide +kernel
theorem dX12_does_213 : decode cX12_does 213 = .ok (.goto 119, 3) := by decide +kernel
theorem dX12_does_216 : decode cX12_does 216 = .ok (.iload_n 1, 1) := by decide +kernel
theorem dX12_does_217 : decode cX12_does 217 = .ok (.bipush 13, 2) := by decide +kernel
theorem dX12_does_219 : decode cX12_does 219 = .ok (.if_icmp .ne 18, 3) := by decide +kernel
theorem dX12_does_222 : decode cX12_does 222 = .ok (.aload_n 0, 1) := by decide +kernel
theorem dX12_does_223 : decode cX12_does 223 = .ok (.iload 5, 2) := by decide +kernel
theorem dX12_does_225 : decode cX12_does 225 = .ok (.aload_n 0, 1) := by decide +kernel
theorem dX12_does_226 : decode cX12_does 226 = .ok (.iload_n 2, 1) := by decide +kernel
theorem dX12_does_227 : decode cX12_does 227 = .ok (.i2l, 1) := by decide +kernel
theorem dX12_does_228 : decode cX12_does 228 = .ok (.invokevirtual 139, 3) := by decide +kernel
theorem dX12_does_231 : decode cX12_does 231 = .ok (.invokevirtual 274, 3) := by decide +kernel
theorem dX12_does_234 : decode cX12_does 234 = .ok (.goto 98, 3) := by decide +kernel
theorem dX12_does_237 : decode cX12_does 237 = .ok (.iload_n 1, 1) := by decide +kernel
theorem dX12_does_238 : decode cX12_does 238 = .ok (.bipush 14, 2) := by decide +kernel
theorem dX12_does_240 : decode cX12_does 240 = .ok (.if_icmp .ne 18, 3) := by decide +kernel
theorem dX12_does_243 : decode cX12_does 243 = .ok (.aload_n 0, 1) := by decide +kernel
theorem dX12_does_244 : decode cX12_does 244 = .ok (.iload 5, 2) := by decide +kernel
theorem dX12_does_246 : decode cX12_does 246 = .ok (.aload_n 0, 1) := by decide +kernel
theorem dX12_does_247 : decode cX12_does 247 = .ok (.iload_n 2, 1) := by decide +kernel
theorem dX12_does_248 : decode cX12_does 248 = .ok (.i2l, 1) := by decide +kernel
theorem dX12_does_249 : decode cX12_does 249 = .ok (.invokevirtual 171, 3) := by decide +kernel
theorem dX12_does_252 : decode cX12_does 252 = .ok (.invokevirtual 274, 3) := by decide +kernel
theorem dX12_does_255 : decode cX12_does 255 = .ok (.goto 77, 3) := by decide +kernel
theorem dX12_does_258 : decode cX12_does 258 = .ok (.iload_n 1, 1) := by decide +kernel
theorem dX12_does_259 : decode cX12_does 259 = .ok (.bipush 15, 2) := by decide +kernel
theorem dX12_does_261 : decode cX12_does 261 = .ok (.if_icmp .ne 41, 3) := by decide +kernel
theorem dX12_does_264 : decode cX12_does 264 = .ok (.iload_n 2, 1) := by decide +kernel
theorem dX12_does_265 : decode cX12_does 265 = .ok (.aload_n 0, 1) := by decide +kernel
theorem dX12_does_266 : decode cX12_does 266 = .ok (.getfield 166, 3) := by decide +kernel
theorem dX12_does_269 : decode cX12_does 269 = .ok (.if_icmp .lt 10, 3) := by decide +kernel
theorem dX12_does_272 : decode cX12_does 272 = .ok (.iload_n 2, 1) := by decide +kernel
theorem dX12_does_273 : decode cX12_does 273 = .ok (.sipush 4095, 3) := by decide +kernel
theorem dX12_does_276 : decode cX12_does 276 = .ok (.if_icmp .le 12, 3) := by decide +kernel
theorem dX12_does_279 : decode cX12_does 279 = .ok (.aload_n 0, 1) := by decide +kernel
theorem dX12_does_280 : decode cX12_does 280 = .ok (.bipush 7, 2) := by decide +kernel
theorem dX12_does_282 : decode cX12_does 282 = .ok (.invokevirtual 135, 3) := by decide +kernel
theorem dX12_does_285 : decode cX12_does 285 = .ok (.goto 47, 3) := by decide +kernel
theorem dX12_does_288 : decode cX12_does 288 = .ok (.aload_n 0, 1) := by decide +kernel
theorem dX12_does_289 : decode cX12_does 289 = .ok (.getfield 7, 3) := by decide +kernel
theorem dX12_does_292 : decode cX12_does 292 = .ok (.iload_n 2, 1) := by decide +kernel
theorem dX12_does_293 : decode cX12_does 293 = .ok (.iload_n 3, 1) := by decide +kernel
theorem dX12_does_294 : decode cX12_does 294 = .ok (.sipush 255, 3) := by decide +kernel
theorem dX12_does_297 : decode cX12_does 297 = .ok (.iand, 1) := by decide +kernel
theorem dX12_does_298 : decode cX12_does 298 = .ok (.iastore, 1) := by decide +kernel
theorem dX12_does_299 : decode cX12_does 299 = .ok (.goto 33, 3) := by decide +kernel
theorem dX12_does_302 : decode cX12_does 302 = .ok (.iload_n 1, 1) := by decide +kernel
theorem dX12_does_303 : decode cX12_does 303 = .ok (.bipush 16, 2) := by decide +kernel
theorem dX12_does_305 : decode cX12_does 305 = .ok (.if_icmp .ne 16, 3) := by decide +kernel
theorem dX12_does_308 : decode cX12_does 308 = .ok (.aload_n 0, 1) := by decide +kernel
theorem dX12_does_309 : decode cX12_does 309 = .ok (.iload 5, 2) := by decide +kernel
theorem dX12_does_311 : decode cX12_does 311 = .ok (.aload_n 0, 1) := by decide +kernel
theorem dX12_does_312 : decode cX12_does 312 = .ok (.getfield 146, 3) := by decide +kernel
theorem dX12_does_315 : decode cX12_does 315 = .ok (.invokevirtual 274, 3) := by decide +kernel
theorem dX12_does_318 : decode cX12_does 318 = .ok (.goto 14, 3) := by decide +kernel
theorem dX12_does_321 : decode cX12_does 321 = .ok (.iload_n 1, 1) := by decide +kernel
theorem dX12_does_322 : decode cX12_does 322 = .ok (.bipush 17, 2) := by decide +kernel
theorem dX12_does_324 : decode cX12_does 324 = .ok (.if_icmp .ne 8, 3) := by decide +kernel
theorem dX12_does_327 : decode cX12_does 327 = .ok (.aload_n 0, 1) := by decide +kernel
theorem dX12_does_328 : decode cX12_does 328 = .ok (.iconst 0, 1) := by decide +kernel
theorem dX12_does_329 : decode cX12_does 329 = .ok (.putfield 186, 3) := by decide +kernel
theorem dX12_does_332 : decode cX12_does 332 = .ok (.return_, 1) := by decide +kernel
theorem dX12_failed_0 : decode cX12_failed 0 = .ok (.aload_n 0, 1) := by decide +kernel
theorem dX12_failed_1 : decode cX12_failed 1 = .ok (.iconst 0, 1) := by decide +kernel
theorem dX12_failed_2 : decode cX12_failed 2 = .ok (.putfield 186, 3) := by decide +kernel
theorem dX12_failed_5 : decode cX12_failed 5 = .ok (.aload_n 0, 1) := by decide +kernel
theorem dX12_failed_6 : decode cX12_failed 6 = .ok (.dup, 1) := by decide +kernel
theorem dX12_failed_7 : decode cX12_failed 7 = .ok (.getfield 277, 3) := by decide +kernel
theorem dX12_failed_10 : decode cX12_failed 10 = .ok (.iconst 1, 1) := by decide +kernel
theorem dX12_failed_11 : decode cX12_failed 11 = .ok (.iadd, 1) := by decide +kernel
theorem dX12_failed_12 : decode cX12_failed 12 = .ok (.putfield 277, 3) := by decide +kernel
theorem dX12_failed_15 : decode cX12_failed 15 = .ok (.aload_n 0, 1) := by decide +kernel
theorem dX12_failed_16 : decode cX12_failed 16 = .ok (.aload_n 0, 1) := by decide +kernel
theorem dX12_failed_17 : decode cX12_failed 17 = .ok (.getfield 126, 3) := by decide +kernel
theorem dX12_failed_20 : decode cX12_failed 20 = .ok (.putfield 280, 3) := by decide +kernel
theorem dX12_failed_23 : decode cX12_failed 23 = .ok (.bipush (-10), 2) := by decide +kernel
theorem dX12_failed_25 : decode cX12_failed 25 = .ok (.aload_n 0, 1) := by decide +kernel
theorem dX12_failed_26 : decode cX12_failed 26 = .ok (.getfield 126, 3) := by decide +kernel
theorem dX12_failed_29 : decode cX12_failed 29 = .ok (.isub, 1) := by decide +kernel
theorem dX12_failed_30 : decode cX12_failed 30 = .ok (.ireturn, 1) := by decide +kernel
theorem dX12_runs_0 : decode cX12_runs 0 = .ok (.aload_n 0, 1) := by decide +kernel
theorem dX12_runs_1 : decode cX12_runs 1 = .ok (.getfield 213, 3) := by decide +kernel
theorem dX12_runs_4 : decode cX12_runs 4 = .ok (.istore_n 2, 1) := by decide +kernel
theorem dX12_runs_5 : decode cX12_runs 5 = .ok (.iconst 0, 1) := by decide +kernel
theorem dX12_runs_6 : decode cX12_runs 6 = .ok (.istore_n 3, 1) := by decide +kernel
theorem dX12_runs_7 : decode cX12_runs 7 = .ok (.iload_n 3, 1) := by decide +kernel
theorem dX12_runs_8 : decode cX12_runs 8 = .ok (.iload_n 1, 1) := by decide +kernel
theorem dX12_runs_9 : decode cX12_runs 9 = .ok (.if_icmp .ge 37, 3) := by decide +kernel
theorem dX12_runs_12 : decode cX12_runs 12 = .ok (.aload_n 0, 1) := by decide +kernel
theorem dX12_runs_13 : decode cX12_runs 13 = .ok (.getfield 186, 3) := by decide +kernel
theorem dX12_runs_16 : decode cX12_runs 16 = .ok (.ifCond .le 30, 3) := by decide +kernel
theorem dX12_runs_19 : decode cX12_runs 19 = .ok (.aload_n 0, 1) := by decide +kernel
theorem dX12_runs_20 : decode cX12_runs 20 = .ok (.getfield 126, 3) := by decide +kernel
theorem dX12_runs_23 : decode cX12_runs 23 = .ok (.ifCond .ne 23, 3) := by decide +kernel
theorem dX12_runs_26 : decode cX12_runs 26 = .ok (.aload_n 0, 1) := by decide +kernel
theorem dX12_runs_27 : decode cX12_runs 27 = .ok (.dup, 1) := by decide +kernel
theorem dX12_runs_28 : decode cX12_runs 28 = .ok (.getfield 283, 3) := by decide +kernel
theorem dX12_runs_31 : decode cX12_runs 31 = .ok (.iconst 1, 1) := by decide +kernel
theorem dX12_runs_32 : decode cX12_runs 32 = .ok (.iadd, 1) := by decide +kernel
theorem dX12_runs_33 : decode cX12_runs 33 = .ok (.putfield 283, 3) := by decide +kernel
theorem dX12_runs_36 : decode cX12_runs 36 = .ok (.aload_n 0, 1) := by decide +kernel
theorem dX12_runs_37 : decode cX12_runs 37 = .ok (.invokevirtual 286, 3) := by decide +kernel
theorem dX12_runs_40 : decode cX12_runs 40 = .ok (.iinc 3 1, 3) := by decide +kernel
theorem dX12_runs_43 : decode cX12_runs 43 = .ok (.goto (-36), 3) := by decide +kernel
theorem dX12_runs_46 : decode cX12_runs 46 = .ok (.aload_n 0, 1) := by decide +kernel
theorem dX12_runs_47 : decode cX12_runs 47 = .ok (.getfield 126, 3) := by decide +kernel
theorem dX12_runs_50 : decode cX12_runs 50 = .ok (.ifCond .le 10, 3) := by decide +kernel
theorem dX12_runs_53 : decode cX12_runs 53 = .ok (.aload_n 0, 1) := by decide +kernel
theorem dX12_runs_54 : decode cX12_runs 54 = .ok (.invokevirtual 289, 3) := by decide +kernel
theorem dX12_runs_57 : decode cX12_runs 57 = .ok (.goto 21, 3) := by decide +kernel
theorem dX12_runs_60 : decode cX12_runs 60 = .ok (.aload_n 0, 1) := by decide +kernel
theorem dX12_runs_61 : decode cX12_runs 61 = .ok (.getfield 186, 3) := by decide +kernel
theorem dX12_runs_64 : decode cX12_runs 64 = .ok (.ifCond .ne 12, 3) := by decide +kernel
theorem dX12_runs_67 : decode cX12_runs 67 = .ok (.aload_n 0, 1) := by decide +kernel
theorem dX12_runs_68 : decode cX12_runs 68 = .ok (.getfield 213, 3) := by decide +kernel
theorem dX12_runs_71 : decode cX12_runs 71 = .ok (.iload_n 2, 1) := by decide +kernel
theorem dX12_runs_72 : decode cX12_runs 72 = .ok (.isub, 1) := by decide +kernel
theorem dX12_runs_73 : decode cX12_runs 73 = .ok (.goto 5, 3) := by decide +kernel
theorem dX12_runs_76 : decode cX12_runs 76 = .ok (.bipush (-5), 2) := by decide +kernel
theorem dX12_runs_78 : decode cX12_runs 78 = .ok (.ireturn, 1) := by decide +kernel
theorem dX12_print_0 : decode cX12_print 0 = .ok (.iload_n 2, 1) := by decide +kernel
theorem dX12_print_1 : decode cX12_print 1 = .ok (.i2l, 1) := by decide +kernel
theorem dX12_print_2 : decode cX12_print 2 = .ok (.lconst 0, 1) := by decide +kernel
theorem dX12_print_3 : decode cX12_print 3 = .ok (.ldc2_w 292, 3) := by decide +kernel
theorem dX12_print_6 : decode cX12_print 6 = .ok (.invokestatic 131, 3) := by decide +kernel
theorem dX12_print_9 : decode cX12_print 9 = .ok (.ifCond .ne 6, 3) := by decide +kernel
theorem dX12_print_12 : decode cX12_print 12 = .ok (.bipush (-2), 2) := by decide +kernel
theorem dX12_print_14 : decode cX12_print 14 = .ok (.ireturn, 1) := by decide +kernel
theorem dX12_print_15 : decode cX12_print 15 = .ok (.aload_n 0, 1) := by decide +kernel
theorem dX12_print_16 : decode cX12_print 16 = .ok (.getfield 186, 3) := by decide +kernel
theorem dX12_print_19 : decode cX12_print 19 = .ok (.ifCond .le 6, 3) := by decide +kernel
theorem dX12_print_22 : decode cX12_print 22 = .ok (.bipush (-3), 2) := by decide +kernel
theorem dX12_print_24 : decode cX12_print 24 = .ok (.ireturn, 1) := by decide +kernel
theorem dX12_print_25 : decode cX12_print 25 = .ok (.aload_n 0, 1) := by decide +kernel
theorem dX12_print_26 : decode cX12_print 26 = .ok (.iconst 0, 1) := by decide +kernel
theorem dX12_print_27 : decode cX12_print 27 = .ok (.putfield 126, 3) := by decide +kernel
theorem dX12_print_30 : decode cX12_print 30 = .ok (.aload_n 0, 1) := by decide +kernel
theorem dX12_print_31 : decode cX12_print 31 = .ok (.iload_n 1, 1) := by decide +kernel
theorem dX12_print_32 : decode cX12_print 32 = .ok (.invokevirtual 248, 3) := by decide +kernel
theorem dX12_print_35 : decode cX12_print 35 = .ok (.aload_n 0, 1) := by decide +kernel
theorem dX12_print_36 : decode cX12_print 36 = .ok (.iload_n 2, 1) := by decide +kernel
theorem dX12_print_37 : decode cX12_print 37 = .ok (.invokevirtual 294, 3) := by decide +kernel
theorem dX12_print_40 : decode cX12_print 40 = .ok (.ireturn, 1) := by decide +kernel
theorem dX12_number_0 : decode cX12_number 0 = .ok (.iload_n 2, 1) := by decide +kernel
theorem dX12_number_1 : decode cX12_number 1 = .ok (.i2l, 1) := by decide +kernel
theorem dX12_number_2 : decode cX12_number 2 = .ok (.lconst 0, 1) := by decide +kernel
theorem dX12_number_3 : decode cX12_number 3 = .ok (.ldc2_w 292, 3) := by decide +kernel
theorem dX12_number_6 : decode cX12_number 6 = .ok (.invokestatic 131, 3) := by decide +kernel
theorem dX12_number_9 : decode cX12_number 9 = .ok (.ifCond .ne 6, 3) := by decide +kernel
theorem dX12_number_12 : decode cX12_number 12 = .ok (.bipush (-2), 2) := by decide +kernel
theorem dX12_number_14 : decode cX12_number 14 = .ok (.ireturn, 1) := by decide +kernel
theorem dX12_number_15 : decode cX12_number 15 = .ok (.aload_n 0, 1) := by decide +kernel
theorem dX12_number_16 : decode cX12_number 16 = .ok (.getfield 186, 3) := by decide +kernel
theorem dX12_number_19 : decode cX12_number 19 = .ok (.ifCond .le 6, 3) := by decide +kernel
theorem dX12_number_22 : decode cX12_number 22 = .ok (.bipush (-3), 2) := by decide +kernel
theorem dX12_number_24 : decode cX12_number 24 = .ok (.ireturn, 1) := by decide +kernel
theorem dX12_number_25 : decode cX12_number 25 = .ok (.aload_n 0, 1) := by decide +kernel
theorem dX12_number_26 : decode cX12_number 26 = .ok (.iconst 0, 1) := by decide +kernel
theorem dX12_number_27 : decode cX12_number 27 = .ok (.putfield 126, 3) := by decide +kernel
theorem dX12_number_30 : decode cX12_number 30 = .ok (.aload_n 0, 1) := by decide +kernel
theorem dX12_number_31 : decode cX12_number 31 = .ok (.iconst 4, 1) := by decide +kernel
theorem dX12_number_32 : decode cX12_number 32 = .ok (.iload_n 1, 1) := by decide +kernel
theorem dX12_number_33 : decode cX12_number 33 = .ok (.invokevirtual 207, 3) := by decide +kernel
theorem dX12_number_36 : decode cX12_number 36 = .ok (.aload_n 0, 1) := by decide +kernel
theorem dX12_number_37 : decode cX12_number 37 = .ok (.iload_n 2, 1) := by decide +kernel
theorem dX12_number_38 : decode cX12_number 38 = .ok (.invokevirtual 294, 3) := by decide +kernel
theorem dX12_number_41 : decode cX12_number 41 = .ok (.ireturn, 1) := by decide +kernel
theorem dX12_call_0 : decode cX12_call 0 = .ok (.iload_n 2, 1) := by decide +kernel
theorem dX12_call_1 : decode cX12_call 1 = .ok (.i2l, 1) := by decide +kernel
theorem dX12_call_2 : decode cX12_call 2 = .ok (.lconst 0, 1) := by decide +kernel
theorem dX12_call_3 : decode cX12_call 3 = .ok (.ldc2_w 292, 3) := by decide +kernel
theorem dX12_call_6 : decode cX12_call 6 = .ok (.invokestatic 131, 3) := by decide +kernel
theorem dX12_call_9 : decode cX12_call 9 = .ok (.ifCond .eq 11, 3) := by decide +kernel
theorem dX12_call_12 : decode cX12_call 12 = .ok (.aload_n 0, 1) := by decide +kernel
theorem dX12_call_13 : decode cX12_call 13 = .ok (.getfield 297, 3) := by decide +kernel
theorem dX12_call_16 : decode cX12_call 16 = .ok (.iconst 4, 1) := by decide +kernel
theorem dX12_call_17 : decode cX12_call 17 = .ok (.if_icmp .le 6, 3) := by decide +kernel
theorem dX12_call_20 : decode cX12_call 20 = .ok (.bipush (-2), 2) := by decide +kernel
theorem dX12_call_22 : decode cX12_call 22 = .ok (.ireturn, 1) := by decide +kernel
theorem dX12_call_23 : decode cX12_call 23 = .ok (.aload_n 0, 1) := by decide +kernel
theorem dX12_call_24 : decode cX12_call 24 = .ok (.getfield 186, 3) := by decide +kernel
theorem dX12_call_27 : decode cX12_call 27 = .ok (.ifCond .le 6, 3) := by decide +kernel
theorem dX12_call_30 : decode cX12_call 30 = .ok (.bipush (-3), 2) := by decide +kernel
theorem dX12_call_32 : decode cX12_call 32 = .ok (.ireturn, 1) := by decide +kernel
theorem dX12_call_33 : decode cX12_call 33 = .ok (.iconst 0, 1) := by decide +kernel
theorem dX12_call_34 : decode cX12_call 34 = .ok (.istore_n 3, 1) := by decide +kernel
theorem dX12_call_35 : decode cX12_call 35 = .ok (.iload_n 3, 1) := by decide +kernel
theorem dX12_call_36 : decode cX12_call 36 = .ok (.aload_n 0, 1) := by decide +kernel
theorem dX12_call_37 : decode cX12_call 37 = .ok (.getfield 297, 3) := by decide +kernel
theorem dX12_call_40 : decode cX12_call 40 = .ok (.if_icmp .ge 21, 3) := by decide +kernel
theorem dX12_call_43 : decode cX12_call 43 = .ok (.aload_n 0, 1) := by decide +kernel
theorem dX12_call_44 : decode cX12_call 44 = .ok (.getfield 53, 3) := by decide +kernel
theorem dX12_call_47 : decode cX12_call 47 = .ok (.iload_n 3, 1) := by decide +kernel
theorem dX12_call_48 : decode cX12_call 48 = .ok (.aload_n 0, 1) := by decide +kernel
theorem dX12_call_49 : decode cX12_call 49 = .ok (.getfield 16, 3) := by decide +kernel
theorem dX12_call_52 : decode cX12_call 52 = .ok (.iload_n 3, 1) := by decide +kernel
theorem dX12_call_53 : decode cX12_call 53 = .ok (.iaload, 1) := by decide +kernel
theorem dX12_call_54 : decode cX12_call 54 = .ok (.iastore, 1) := by decide +kernel
theorem dX12_call_55 : decode cX12_call 55 = .ok (.iinc 3 1, 3) := by decide +kernel
theorem dX12_call_58 : decode cX12_call 58 = .ok (.goto (-23), 3) := by decide +kernel
theorem dX12_call_61 : decode cX12_call 61 = .ok (.aload_n 0, 1) := by decide +kernel
theorem dX12_call_62 : decode cX12_call 62 = .ok (.iconst 0, 1) := by decide +kernel
theorem dX12_call_63 : decode cX12_call 63 = .ok (.putfield 126, 3) := by decide +kernel
theorem dX12_call_66 : decode cX12_call 66 = .ok (.aload_n 0, 1) := by decide +kernel
theorem dX12_call_67 : decode cX12_call 67 = .ok (.iload_n 1, 1) := by decide +kernel
theorem dX12_call_68 : decode cX12_call 68 = .ok (.aload_n 0, 1) := by decide +kernel
theorem dX12_call_69 : decode cX12_call 69 = .ok (.getfield 297, 3) := by decide +kernel
theorem dX12_call_72 : decode cX12_call 72 = .ok (.sipush 255, 3) := by decide +kernel
theorem dX12_call_75 : decode cX12_call 75 = .ok (.invokevirtual 216, 3) := by decide +kernel
theorem dX12_call_78 : decode cX12_call 78 = .ok (.aload_n 0, 1) := by decide +kernel
theorem dX12_call_79 : decode cX12_call 79 = .ok (.iconst 0, 1) := by decide +kernel
theorem dX12_call_80 : decode cX12_call 80 = .ok (.putfield 297, 3) := by decide +kernel
theorem dX12_call_83 : decode cX12_call 83 = .ok (.aload_n 0, 1) := by decide +kernel
theorem dX12_call_84 : decode cX12_call 84 = .ok (.iload_n 2, 1) := by decide +kernel
theorem dX12_call_85 : decode cX12_call 85 = .ok (.invokevirtual 294, 3) := by decide +kernel
theorem dX12_call_88 : decode cX12_call 88 = .ok (.ireturn, 1) := by decide +kernel
theorem dX12_resume_0 : decode cX12_resume 0 = .ok (.iload_n 1, 1) := by decide +kernel
theorem dX12_resume_1 : decode cX12_resume 1 = .ok (.i2l, 1) := by decide +kernel
theorem dX12_resume_2 : decode cX12_resume 2 = .ok (.lconst 0, 1) := by decide +kernel
theorem dX12_resume_3 : decode cX12_resume 3 = .ok (.ldc2_w 292, 3) := by decide +kernel
theorem dX12_resume_6 : decode cX12_resume 6 = .ok (.invokestatic 131, 3) := by decide +kernel
theorem dX12_resume_9 : decode cX12_resume 9 = .ok (.ifCond .ne 6, 3) := by decide +kernel
theorem dX12_resume_12 : decode cX12_resume 12 = .ok (.bipush (-2), 2) := by decide +kernel
theorem dX12_resume_14 : decode cX12_resume 14 = .ok (.ireturn, 1) := by decide +kernel
theorem dX12_resume_15 : decode cX12_resume 15 = .ok (.aload_n 0, 1) := by decide +kernel
theorem dX12_resume_16 : decode cX12_resume 16 = .ok (.getfield 186, 3) := by decide +kernel
theorem dX12_resume_19 : decode cX12_resume 19 = .ok (.ifCond .ne 6, 3) := by decide +kernel
theorem dX12_resume_22 : decode cX12_resume 22 = .ok (.bipush (-3), 2) := by decide +kernel
theorem dX12_resume_24 : decode cX12_resume 24 = .ok (.ireturn, 1) := by decide +kernel
theorem dX12_resume_25 : decode cX12_resume 25 = .ok (.aload_n 0, 1) := by decide +kernel
theorem dX12_resume_26 : decode cX12_resume 26 = .ok (.iconst 0, 1) := by decide +kernel
theorem dX12_resume_27 : decode cX12_resume 27 = .ok (.putfield 126, 3) := by decide +kernel
theorem dX12_resume_30 : decode cX12_resume 30 = .ok (.aload_n 0, 1) := by decide +kernel
theorem dX12_resume_31 : decode cX12_resume 31 = .ok (.iload_n 1, 1) := by decide +kernel
theorem dX12_resume_32 : decode cX12_resume 32 = .ok (.invokevirtual 294, 3) := by decide +kernel
theorem dX12_resume_35 : decode cX12_resume 35 = .ok (.ireturn, 1) := by decide +kernel
theorem dX12_stop_0 : decode cX12_stop 0 = .ok (.aload_n 0, 1) := by decide +kernel
theorem dX12_stop_1 : decode cX12_stop 1 = .ok (.getfield 186, 3) := by decide +kernel
theorem dX12_stop_4 : decode cX12_stop 4 = .ok (.istore_n 1, 1) := by decide +kernel
theorem dX12_stop_5 : decode cX12_stop 5 = .ok (.aload_n 0, 1) := by decide +kernel
theorem dX12_stop_6 : decode cX12_stop 6 = .ok (.iconst 0, 1) := by decide +kernel
theorem dX12_stop_7 : decode cX12_stop 7 = .ok (.putfield 186, 3) := by decide +kernel
theorem dX12_stop_10 : decode cX12_stop 10 = .ok (.iload_n 1, 1) := by decide +kernel
theorem dX12_stop_11 : decode cX12_stop 11 = .ok (.ireturn, 1) := by decide +kernel
theorem dX12_jobs_0 : decode cX12_jobs 0 = .ok (.aload_n 0, 1) := by decide +kernel
theorem dX12_jobs_1 : decode cX12_jobs 1 = .ok (.getfield 186, 3) := by decide +kernel
theorem dX12_jobs_4 : decode cX12_jobs 4 = .ok (.ireturn, 1) := by decide +kernel
theorem dX12_job_0 : decode cX12_job 0 = .ok (.iload_n 1, 1) := by decide +kernel
theorem dX12_job_1 : decode cX12_job 1 = .ok (.i2l, 1) := by decide +kernel
theorem dX12_job_2 : decode cX12_job 2 = .ok (.lconst 0, 1) := by decide +kernel
theorem dX12_job_3 : decode cX12_job 3 = .ok (.aload_n 0, 1) := by decide +kernel
theorem dX12_job_4 : decode cX12_job 4 = .ok (.getfield 186, 3) := by decide +kernel
theorem dX12_job_7 : decode cX12_job 7 = .ok (.iconst 1, 1) := by decide +kernel
theorem dX12_job_8 : decode cX12_job 8 = .ok (.isub, 1) := by decide +kernel
theorem dX12_job_9 : decode cX12_job 9 = .ok (.i2l, 1) := by decide +kernel
theorem dX12_job_10 : decode cX12_job 10 = .ok (.invokestatic 131, 3) := by decide +kernel
theorem dX12_job_13 : decode cX12_job 13 = .ok (.ifCond .ne 5, 3) := by decide +kernel
theorem dX12_job_16 : decode cX12_job 16 = .ok (.iconst 0, 1) := by decide +kernel
theorem dX12_job_17 : decode cX12_job 17 = .ok (.ireturn, 1) := by decide +kernel
theorem dX12_job_18 : decode cX12_job 18 = .ok (.iload_n 2, 1) := by decide +kernel
theorem dX12_job_19 : decode cX12_job 19 = .ok (.ifCond .ne 10, 3) := by decide +kernel
theorem dX12_job_22 : decode cX12_job 22 = .ok (.aload_n 0, 1) := by decide +kernel
theorem dX12_job_23 : decode cX12_job 23 = .ok (.getfield 26, 3) := by decide +kernel
theorem dX12_job_26 : decode cX12_job 26 = .ok (.iload_n 1, 1) := by decide +kernel
theorem dX12_job_27 : decode cX12_job 27 = .ok (.iaload, 1) := by decide +kernel
theorem dX12_job_28 : decode cX12_job 28 = .ok (.ireturn, 1) := by decide +kernel
theorem dX12_job_29 : decode cX12_job 29 = .ok (.iload_n 2, 1) := by decide +kernel
theorem dX12_job_30 : decode cX12_job 30 = .ok (.iconst 1, 1) := by decide +kernel
theorem dX12_job_31 : decode cX12_job 31 = .ok (.if_icmp .ne 10, 3) := by decide +kernel
theorem dX12_job_34 : decode cX12_job 34 = .ok (.aload_n 0, 1) := by decide +kernel
theorem dX12_job_35 : decode cX12_job 35 = .ok (.getfield 29, 3) := by decide +kernel
theorem dX12_job_38 : decode cX12_job 38 = .ok (.iload_n 1, 1) := by decide +kernel
theorem dX12_job_39 : decode cX12_job 39 = .ok (.iaload, 1) := by decide +kernel
theorem dX12_job_40 : decode cX12_job 40 = .ok (.ireturn, 1) := by decide +kernel
theorem dX12_job_41 : decode cX12_job 41 = .ok (.iload_n 2, 1) := by decide +kernel
theorem dX12_job_42 : decode cX12_job 42 = .ok (.iconst 2, 1) := by decide +kernel
theorem dX12_job_43 : decode cX12_job 43 = .ok (.if_icmp .ne 10, 3) := by decide +kernel
theorem dX12_job_46 : decode cX12_job 46 = .ok (.aload_n 0, 1) := by decide +kernel
theorem dX12_job_47 : decode cX12_job 47 = .ok (.getfield 32, 3) := by decide +kernel
theorem dX12_job_50 : decode cX12_job 50 = .ok (.iload_n 1, 1) := by decide +kernel
theorem dX12_job_51 : decode cX12_job 51 = .ok (.iaload, 1) := by decide +kernel
theorem dX12_job_52 : decode cX12_job 52 = .ok (.ireturn, 1) := by decide +kernel
theorem dX12_job_53 : decode cX12_job 53 = .ok (.iload_n 2, 1) := by decide +kernel
theorem dX12_job_54 : decode cX12_job 54 = .ok (.iconst 3, 1) := by decide +kernel
theorem dX12_job_55 : decode cX12_job 55 = .ok (.if_icmp .ne 10, 3) := by decide +kernel
theorem dX12_job_58 : decode cX12_job 58 = .ok (.aload_n 0, 1) := by decide +kernel
theorem dX12_job_59 : decode cX12_job 59 = .ok (.getfield 35, 3) := by decide +kernel
theorem dX12_job_62 : decode cX12_job 62 = .ok (.iload_n 1, 1) := by decide +kernel
theorem dX12_job_63 : decode cX12_job 63 = .ok (.iaload, 1) := by decide +kernel
theorem dX12_job_64 : decode cX12_job 64 = .ok (.ireturn, 1) := by decide +kernel
theorem dX12_job_65 : decode cX12_job 65 = .ok (.iload_n 2, 1) := by decide +kernel
theorem dX12_job_66 : decode cX12_job 66 = .ok (.iconst 4, 1) := by decide +kernel
theorem dX12_job_67 : decode cX12_job 67 = .ok (.if_icmp .ne 37, 3) := by decide +kernel
theorem dX12_job_70 : decode cX12_job 70 = .ok (.aload_n 0, 1) := by decide +kernel
theorem dX12_job_71 : decode cX12_job 71 = .ok (.getfield 26, 3) := by decide +kernel
theorem dX12_job_74 : decode cX12_job 74 = .ok (.iload_n 1, 1) := by decide +kernel
theorem dX12_job_75 : decode cX12_job 75 = .ok (.iaload, 1) := by decide +kernel
theorem dX12_job_76 : decode cX12_job 76 = .ok (.iconst 3, 1) := by decide +kernel
theorem dX12_job_77 : decode cX12_job 77 = .ok (.if_icmp .eq 7, 3) := by decide +kernel
theorem dX12_job_80 : decode cX12_job 80 = .ok (.iconst 0, 1) := by decide +kernel
theorem dX12_job_81 : decode cX12_job 81 = .ok (.goto 22, 3) := by decide +kernel
theorem dX12_job_84 : decode cX12_job 84 = .ok (.aload_n 0, 1) := by decide +kernel
theorem dX12_job_85 : decode cX12_job 85 = .ok (.getfield 41, 3) := by decide +kernel
theorem dX12_job_88 : decode cX12_job 88 = .ok (.iload_n 1, 1) := by decide +kernel
theorem dX12_job_89 : decode cX12_job 89 = .ok (.baload, 1) := by decide +kernel
theorem dX12_job_90 : decode cX12_job 90 = .ok (.ifCond .eq 7, 3) := by decide +kernel
theorem dX12_job_93 : decode cX12_job 93 = .ok (.iconst (-1), 1) := by decide +kernel
theorem dX12_job_94 : decode cX12_job 94 = .ok (.goto 9, 3) := by decide +kernel
theorem dX12_job_97 : decode cX12_job 97 = .ok (.aload_n 0, 1) := by decide +kernel
theorem dX12_job_98 : decode cX12_job 98 = .ok (.getfield 44, 3) := by decide +kernel
theorem dX12_job_101 : decode cX12_job 101 = .ok (.iload_n 1, 1) := by decide +kernel
theorem dX12_job_102 : decode cX12_job 102 = .ok (.iaload, 1) := by decide +kernel
theorem dX12_job_103 : decode cX12_job 103 = .ok (.ireturn, 1) := by decide +kernel
