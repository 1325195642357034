theorem dX0_init_0 : decode cX0_init 0 = .ok (.aload_n 0, 1) := by decide +kernel
theorem dX0_init_1 : decode cX0_init 1 = .ok (.invokespecial 7, 3) := by decide +kernel
theorem dX0_init_4 : decode cX0_init 4 = .ok (.aload_n 0, 1) := by decide +kernel
theorem dX0_init_5 : decode cX0_init 5 = .ok (.bipush 121, 2) := by decide +kernel
theorem dX0_init_7 : decode cX0_init 7 = .ok (.newarray .int, 2) := by decide +kernel
theorem dX0_init_9 : decode cX0_init 9 = .ok (.putfield 13, 3) := by decide +kernel
theorem dX0_init_12 : decode cX0_init 12 = .ok (.aload_n 0, 1) := by decide +kernel
theorem dX0_init_13 : decode cX0_init 13 = .ok (.bipush 121, 2) := by decide +kernel
theorem dX0_init_15 : decode cX0_init 15 = .ok (.newarray .boolean, 2) := by decide +kernel
theorem dX0_init_17 : decode cX0_init 17 = .ok (.putfield 17, 3) := by decide +kernel
theorem dX0_init_20 : decode cX0_init 20 = .ok (.aload_n 0, 1) := by decide +kernel
theorem dX0_init_21 : decode cX0_init 21 = .ok (.bipush 121, 2) := by decide +kernel
theorem dX0_init_23 : decode cX0_init 23 = .ok (.newarray .int, 2) := by decide +kernel
theorem dX0_init_25 : decode cX0_init 25 = .ok (.putfield 21, 3) := by decide +kernel
theorem dX0_init_28 : decode cX0_init 28 = .ok (.aload_n 0, 1) := by decide +kernel
theorem dX0_init_29 : decode cX0_init 29 = .ok (.bipush 121, 2) := by decide +kernel
theorem dX0_init_31 : decode cX0_init 31 = .ok (.newarray .int, 2) := by decide +kernel
theorem dX0_init_33 : decode cX0_init 33 = .ok (.putfield 24, 3) := by decide +kernel
theorem dX0_init_36 : decode cX0_init 36 = .ok (.aload_n 0, 1) := by decide +kernel
theorem dX0_init_37 : decode cX0_init 37 = .ok (.bipush 121, 2) := by decide +kernel
theorem dX0_init_39 : decode cX0_init 39 = .ok (.newarray .int, 2) := by decide +kernel
theorem dX0_init_41 : decode cX0_init 41 = .ok (.putfield 27, 3) := by decide +kernel
theorem dX0_init_44 : decode cX0_init 44 = .ok (.aload_n 0, 1) := by decide +kernel
theorem dX0_init_45 : decode cX0_init 45 = .ok (.bipush 121, 2) := by decide +kernel
theorem dX0_init_47 : decode cX0_init 47 = .ok (.newarray .int, 2) := by decide +kernel
theorem dX0_init_49 : decode cX0_init 49 = .ok (.putfield 30, 3) := by decide +kernel
theorem dX0_init_52 : decode cX0_init 52 = .ok (.aload_n 0, 1) := by decide +kernel
theorem dX0_init_53 : decode cX0_init 53 = .ok (.bipush 121, 2) := by decide +kernel
theorem dX0_init_55 : decode cX0_init 55 = .ok (.newarray .int, 2) := by decide +kernel
theorem dX0_init_57 : decode cX0_init 57 = .ok (.putfield 33, 3) := by decide +kernel
theorem dX0_init_60 : decode cX0_init 60 = .ok (.aload_n 0, 1) := by decide +kernel
theorem dX0_init_61 : decode cX0_init 61 = .ok (.bipush 121, 2) := by decide +kernel
theorem dX0_init_63 : decode cX0_init 63 = .ok (.newarray .int, 2) := by decide +kernel
theorem dX0_init_65 : decode cX0_init 65 = .ok (.putfield 36, 3) := by decide +kernel
theorem dX0_init_68 : decode cX0_init 68 = .ok (.aload_n 0, 1) := by decide +kernel
theorem dX0_init_69 : decode cX0_init 69 = .ok (.bipush 121, 2) := by decide +kernel
theorem dX0_init_71 : decode cX0_init 71 = .ok (.newarray .long, 2) := by decide +kernel
theorem dX0_init_73 : decode cX0_init 73 = .ok (.putfield 39, 3) := by decide +kernel
theorem dX0_init_76 : decode cX0_init 76 = .ok (.aload_n 0, 1) := by decide +kernel
theorem dX0_init_77 : decode cX0_init 77 = .ok (.iconst 0, 1) := by decide +kernel
theorem dX0_init_78 : decode cX0_init 78 = .ok (.putfield 43, 3) := by decide +kernel
theorem dX0_init_81 : decode cX0_init 81 = .ok (.aload_n 0, 1) := by decide +kernel
theorem dX0_init_82 : decode cX0_init 82 = .ok (.iconst 0, 1) := by decide +kernel
theorem dX0_init_83 : decode cX0_init 83 = .ok (.putfield 47, 3) := by decide +kernel
theorem dX0_init_86 : decode cX0_init 86 = .ok (.return_, 1) := by decide +kernel
theorem dX0_clearLeaves_0 : decode cX0_clearLeaves 0 = .ok (.aload_n 0, 1) := by decide +kernel
theorem dX0_clearLeaves_1 : decode cX0_clearLeaves 1 = .ok (.iconst 0, 1) := by decide +kernel
theorem dX0_clearLeaves_2 : decode cX0_clearLeaves 2 = .ok (.putfield 43, 3) := by decide +kernel
theorem dX0_clearLeaves_5 : decode cX0_clearLeaves 5 = .ok (.aload_n 0, 1) := by decide +kernel
theorem dX0_clearLeaves_6 : decode cX0_clearLeaves 6 = .ok (.iconst 0, 1) := by decide +kernel
theorem dX0_clearLeaves_7 : decode cX0_clearLeaves 7 = .ok (.putfield 47, 3) := by decide +kernel
theorem dX0_clearLeaves_10 : decode cX0_clearLeaves 10 = .ok (.return_, 1) := by decide +kernel
theorem dX0_addLeaf_0 : decode cX0_addLeaf 0 = .ok (.aload_n 0, 1) := by decide +kernel
theorem dX0_addLeaf_1 : decode cX0_addLeaf 1 = .ok (.getfield 43, 3) := by decide +kernel
theorem dX0_addLeaf_4 : decode cX0_addLeaf 4 = .ok (.bipush 61, 2) := by decide +kernel
theorem dX0_addLeaf_6 : decode cX0_addLeaf 6 = .ok (.if_icmp .lt 4, 3) := by decide +kernel
theorem dX0_addLeaf_9 : decode cX0_addLeaf 9 = .ok (.return_, 1) := by decide +kernel
theorem dX0_addLeaf_10 : decode cX0_addLeaf 10 = .ok (.aload_n 0, 1) := by decide +kernel
theorem dX0_addLeaf_11 : decode cX0_addLeaf 11 = .ok (.getfield 30, 3) := by decide +kernel
theorem dX0_addLeaf_14 : decode cX0_addLeaf 14 = .ok (.aload_n 0, 1) := by decide +kernel
theorem dX0_addLeaf_15 : decode cX0_addLeaf 15 = .ok (.getfield 43, 3) := by decide +kernel
theorem dX0_addLeaf_18 : decode cX0_addLeaf 18 = .ok (.iload_n 1, 1) := by decide +kernel
theorem dX0_addLeaf_19 : decode cX0_addLeaf 19 = .ok (.iastore, 1) := by decide +kernel
theorem dX0_addLeaf_20 : decode cX0_addLeaf 20 = .ok (.aload_n 0, 1) := by decide +kernel
theorem dX0_addLeaf_21 : decode cX0_addLeaf 21 = .ok (.iload_n 2, 1) := by decide +kernel
theorem dX0_addLeaf_22 : decode cX0_addLeaf 22 = .ok (.iload_n 3, 1) := by decide +kernel
theorem dX0_addLeaf_23 : decode cX0_addLeaf 23 = .ok (.invokevirtual 50, 3) := by decide +kernel
theorem dX0_addLeaf_26 : decode cX0_addLeaf 26 = .ok (.aload_n 0, 1) := by decide +kernel
theorem dX0_addLeaf_27 : decode cX0_addLeaf 27 = .ok (.aload_n 0, 1) := by decide +kernel
theorem dX0_addLeaf_28 : decode cX0_addLeaf 28 = .ok (.getfield 43, 3) := by decide +kernel
theorem dX0_addLeaf_31 : decode cX0_addLeaf 31 = .ok (.putfield 47, 3) := by decide +kernel
theorem dX0_addLeaf_34 : decode cX0_addLeaf 34 = .ok (.return_, 1) := by decide +kernel
theorem dX0_addKnot_0 : decode cX0_addKnot 0 = .ok (.aload_n 0, 1) := by decide +kernel
theorem dX0_addKnot_1 : decode cX0_addKnot 1 = .ok (.getfield 13, 3) := by decide +kernel
theorem dX0_addKnot_4 : decode cX0_addKnot 4 = .ok (.aload_n 0, 1) := by decide +kernel
theorem dX0_addKnot_5 : decode cX0_addKnot 5 = .ok (.getfield 43, 3) := by decide +kernel
theorem dX0_addKnot_8 : decode cX0_addKnot 8 = .ok (.iload_n 1, 1) := by decide +kernel
theorem dX0_addKnot_9 : decode cX0_addKnot 9 = .ok (.iastore, 1) := by decide +kernel
theorem dX0_addKnot_10 : decode cX0_addKnot 10 = .ok (.aload_n 0, 1) := by decide +kernel
theorem dX0_addKnot_11 : decode cX0_addKnot 11 = .ok (.getfield 27, 3) := by decide +kernel
theorem dX0_addKnot_14 : decode cX0_addKnot 14 = .ok (.aload_n 0, 1) := by decide +kernel
theorem dX0_addKnot_15 : decode cX0_addKnot 15 = .ok (.getfield 43, 3) := by decide +kernel
theorem dX0_addKnot_18 : decode cX0_addKnot 18 = .ok (.iload_n 2, 1) := by decide +kernel
theorem dX0_addKnot_19 : decode cX0_addKnot 19 = .ok (.iastore, 1) := by decide +kernel
theorem dX0_addKnot_20 : decode cX0_addKnot 20 = .ok (.aload_n 0, 1) := by decide +kernel
theorem dX0_addKnot_21 : decode cX0_addKnot 21 = .ok (.getfield 17, 3) := by decide +kernel
theorem dX0_addKnot_24 : decode cX0_addKnot 24 = .ok (.aload_n 0, 1) := by decide +kernel
theorem dX0_addKnot_25 : decode cX0_addKnot 25 = .ok (.getfield 43, 3) := by decide +kernel
theorem dX0_addKnot_28 : decode cX0_addKnot 28 = .ok (.iconst 0, 1) := by decide +kernel
theorem dX0_addKnot_29 : decode cX0_addKnot 29 = .ok (.bastore, 1) := by decide +kernel
theorem dX0_addKnot_30 : decode cX0_addKnot 30 = .ok (.aload_n 0, 1) := by decide +kernel
theorem dX0_addKnot_31 : decode cX0_addKnot 31 = .ok (.dup, 1) := by decide +kernel
theorem dX0_addKnot_32 : decode cX0_addKnot 32 = .ok (.getfield 43, 3) := by decide +kernel
theorem dX0_addKnot_35 : decode cX0_addKnot 35 = .ok (.iconst 1, 1) := by decide +kernel
theorem dX0_addKnot_36 : decode cX0_addKnot 36 = .ok (.iadd, 1) := by decide +kernel
theorem dX0_addKnot_37 : decode cX0_addKnot 37 = .ok (.putfield 43, 3) := by decide +kernel
theorem dX0_addKnot_40 : decode cX0_addKnot 40 = .ok (.return_, 1) := by decide +kernel
theorem dX0_joinAll_0 : decode cX0_joinAll 0 = .ok (.aload_n 0, 1) := by decide +kernel
theorem dX0_joinAll_1 : decode cX0_joinAll 1 = .ok (.getfield 47, 3) := by decide +kernel
theorem dX0_joinAll_4 : decode cX0_joinAll 4 = .ok (.istore_n 1, 1) := by decide +kernel
theorem dX0_joinAll_5 : decode cX0_joinAll 5 = .ok (.iload_n 1, 1) := by decide +kernel
theorem dX0_joinAll_6 : decode cX0_joinAll 6 = .ok (.iconst 2, 1) := by decide +kernel
theorem dX0_joinAll_7 : decode cX0_joinAll 7 = .ok (.if_icmp .lt 90, 3) := by decide +kernel
theorem dX0_joinAll_10 : decode cX0_joinAll 10 = .ok (.aload_n 0, 1) := by decide +kernel
theorem dX0_joinAll_11 : decode cX0_joinAll 11 = .ok (.getfield 43, 3) := by decide +kernel
theorem dX0_joinAll_14 : decode cX0_joinAll 14 = .ok (.bipush 121, 2) := by decide +kernel
theorem dX0_joinAll_16 : decode cX0_joinAll 16 = .ok (.if_icmp .ge 81, 3) := by decide +kernel
theorem dX0_joinAll_19 : decode cX0_joinAll 19 = .ok (.aload_n 0, 1) := by decide +kernel
theorem dX0_joinAll_20 : decode cX0_joinAll 20 = .ok (.invokevirtual 54, 3) := by decide +kernel
theorem dX0_joinAll_23 : decode cX0_joinAll 23 = .ok (.istore_n 2, 1) := by decide +kernel
theorem dX0_joinAll_24 : decode cX0_joinAll 24 = .ok (.aload_n 0, 1) := by decide +kernel
theorem dX0_joinAll_25 : decode cX0_joinAll 25 = .ok (.invokevirtual 54, 3) := by decide +kernel
theorem dX0_joinAll_28 : decode cX0_joinAll 28 = .ok (.istore_n 3, 1) := by decide +kernel
theorem dX0_joinAll_29 : decode cX0_joinAll 29 = .ok (.iload_n 2, 1) := by decide +kernel
theorem dX0_joinAll_30 : decode cX0_joinAll 30 = .ok (.ifCond .lt 7, 3) := by decide +kernel
theorem dX0_joinAll_33 : decode cX0_joinAll 33 = .ok (.iload_n 3, 1) := by decide +kernel
theorem dX0_joinAll_34 : decode cX0_joinAll 34 = .ok (.ifCond .ge 4, 3) := by decide +kernel
theorem dX0_joinAll_37 : decode cX0_joinAll 37 = .ok (.return_, 1) := by decide +kernel
theorem dX0_joinAll_38 : decode cX0_joinAll 38 = .ok (.aload_n 0, 1) := by decide +kernel
theorem dX0_joinAll_39 : decode cX0_joinAll 39 = .ok (.getfield 21, 3) := by decide +kernel
theorem dX0_joinAll_42 : decode cX0_joinAll 42 = .ok (.aload_n 0, 1) := by decide +kernel
theorem dX0_joinAll_43 : decode cX0_joinAll 43 = .ok (.getfield 43, 3) := by decide +kernel
theorem dX0_joinAll_46 : decode cX0_joinAll 46 = .ok (.iload_n 2, 1) := by decide +kernel
theorem dX0_joinAll_47 : decode cX0_joinAll 47 = .ok (.iastore, 1) := by decide +kernel
theorem dX0_joinAll_48 : decode cX0_joinAll 48 = .ok (.aload_n 0, 1) := by decide +kernel
theorem dX0_joinAll_49 : decode cX0_joinAll 49 = .ok (.getfield 24, 3) := by decide +kernel
theorem dX0_joinAll_52 : decode cX0_joinAll 52 = .ok (.aload_n 0, 1) := by decide +kernel
theorem dX0_joinAll_53 : decode cX0_joinAll 53 = .ok (.getfield 43, 3) := by decide +kernel
theorem dX0_joinAll_56 : decode cX0_joinAll 56 = .ok (.iload_n 3, 1) := by decide +kernel
theorem dX0_joinAll_57 : decode cX0_joinAll 57 = .ok (.iastore, 1) := by decide +kernel
theorem dX0_joinAll_58 : decode cX0_joinAll 58 = .ok (.aload_n 0, 1) := by decide +kernel
theorem dX0_joinAll_59 : decode cX0_joinAll 59 = .ok (.aload_n 0, 1) := by decide +kernel
theorem dX0_joinAll_60 : decode cX0_joinAll 60 = .ok (.getfield 13, 3) := by decide +kernel
theorem dX0_joinAll_63 : decode cX0_joinAll 63 = .ok (.iload_n 2, 1) := by decide +kernel
theorem dX0_joinAll_64 : decode cX0_joinAll 64 = .ok (.iaload, 1) := by decide +kernel
theorem dX0_joinAll_65 : decode cX0_joinAll 65 = .ok (.aload_n 0, 1) := by decide +kernel
theorem dX0_joinAll_66 : decode cX0_joinAll 66 = .ok (.getfield 13, 3) := by decide +kernel
theorem dX0_joinAll_69 : decode cX0_joinAll 69 = .ok (.iload_n 3, 1) := by decide +kernel
theorem dX0_joinAll_70 : decode cX0_joinAll 70 = .ok (.iaload, 1) := by decide +kernel
theorem dX0_joinAll_71 : decode cX0_joinAll 71 = .ok (.iadd, 1) := by decide +kernel
theorem dX0_joinAll_72 : decode cX0_joinAll 72 = .ok (.bipush 9, 2) := by decide +kernel
theorem dX0_joinAll_74 : decode cX0_joinAll 74 = .ok (.aload_n 0, 1) := by decide +kernel
theorem dX0_joinAll_75 : decode cX0_joinAll 75 = .ok (.getfield 27, 3) := by decide +kernel
theorem dX0_joinAll_78 : decode cX0_joinAll 78 = .ok (.iload_n 2, 1) := by decide +kernel
theorem dX0_joinAll_79 : decode cX0_joinAll 79 = .ok (.iaload, 1) := by decide +kernel
theorem dX0_joinAll_80 : decode cX0_joinAll 80 = .ok (.iadd, 1) := by decide +kernel
theorem dX0_joinAll_81 : decode cX0_joinAll 81 = .ok (.aload_n 0, 1) := by decide +kernel
theorem dX0_joinAll_82 : decode cX0_joinAll 82 = .ok (.getfield 27, 3) := by decide +kernel
theorem dX0_joinAll_85 : decode cX0_joinAll 85 = .ok (.iload_n 3, 1) := by decide +kernel
theorem dX0_joinAll_86 : decode cX0_joinAll 86 = .ok (.iaload, 1) := by decide +kernel
theorem dX0_joinAll_87 : decode cX0_joinAll 87 = .ok (.iadd, 1) := by decide +kernel
theorem dX0_joinAll_88 : decode cX0_joinAll 88 = .ok (.invokevirtual 50, 3) := by decide +kernel
theorem dX0_joinAll_91 : decode cX0_joinAll 91 = .ok (.iinc 1 (-1), 3) := by decide +kernel
theorem dX0_joinAll_94 : decode cX0_joinAll 94 = .ok (.goto (-89), 3) := by decide +kernel
theorem dX0_joinAll_97 : decode cX0_joinAll 97 = .ok (.return_, 1) := by decide +kernel
theorem dX0_takeLeast_0 : decode cX0_takeLeast 0 = .ok (.iconst (-1), 1) := by decide +kernel
theorem dX0_takeLeast_1 : decode cX0_takeLeast 1 = .ok (.istore_n 1, 1) := by decide +kernel
theorem dX0_takeLeast_2 : decode cX0_takeLeast 2 = .ok (.iconst 0, 1) := by decide +kernel
theorem dX0_takeLeast_3 : decode cX0_takeLeast 3 = .ok (.istore_n 2, 1) := by decide +kernel
theorem dX0_takeLeast_4 : decode cX0_takeLeast 4 = .ok (.iload_n 2, 1) := by decide +kernel
theorem dX0_takeLeast_5 : decode cX0_takeLeast 5 = .ok (.aload_n 0, 1) := by decide +kernel
theorem dX0_takeLeast_6 : decode cX0_takeLeast 6 = .ok (.getfield 43, 3) := by decide +kernel
theorem dX0_takeLeast_9 : decode cX0_takeLeast 9 = .ok (.if_icmp .ge 39, 3) := by decide +kernel
theorem dX0_takeLeast_12 : decode cX0_takeLeast 12 = .ok (.aload_n 0, 1) := by decide +kernel
theorem dX0_takeLeast_13 : decode cX0_takeLeast 13 = .ok (.getfield 17, 3) := by decide +kernel
theorem dX0_takeLeast_16 : decode cX0_takeLeast 16 = .ok (.iload_n 2, 1) := by decide +kernel
theorem dX0_takeLeast_17 : decode cX0_takeLeast 17 = .ok (.baload, 1) := by decide +kernel
theorem dX0_takeLeast_18 : decode cX0_takeLeast 18 = .ok (.ifCond .ne 24, 3) := by decide +kernel
theorem dX0_takeLeast_21 : decode cX0_takeLeast 21 = .ok (.iload_n 1, 1) := by decide +kernel
theorem dX0_takeLeast_22 : decode cX0_takeLeast 22 = .ok (.ifCond .lt 18, 3) := by decide +kernel
theorem dX0_takeLeast_25 : decode cX0_takeLeast 25 = .ok (.aload_n 0, 1) := by decide +kernel
theorem dX0_takeLeast_26 : decode cX0_takeLeast 26 = .ok (.getfield 13, 3) := by decide +kernel
theorem dX0_takeLeast_29 : decode cX0_takeLeast 29 = .ok (.iload_n 2, 1) := by decide +kernel
theorem dX0_takeLeast_30 : decode cX0_takeLeast 30 = .ok (.iaload, 1) := by decide +kernel
theorem dX0_takeLeast_31 : decode cX0_takeLeast 31 = .ok (.aload_n 0, 1) := by decide +kernel
theorem dX0_takeLeast_32 : decode cX0_takeLeast 32 = .ok (.getfield 13, 3) := by decide +kernel
theorem dX0_takeLeast_35 : decode cX0_takeLeast 35 = .ok (.iload_n 1, 1) := by decide +kernel
theorem dX0_takeLeast_36 : decode cX0_takeLeast 36 = .ok (.iaload, 1) := by decide +kernel
theorem dX0_takeLeast_37 : decode cX0_takeLeast 37 = .ok (.if_icmp .ge 5, 3) := by decide +kernel
theorem dX0_takeLeast_40 : decode cX0_takeLeast 40 = .ok (.iload_n 2, 1) := by decide +kernel
theorem dX0_takeLeast_41 : decode cX0_takeLeast 41 = .ok (.istore_n 1, 1) := by decide +kernel
theorem dX0_takeLeast_42 : decode cX0_takeLeast 42 = .ok (.iinc 2 1, 3) := by decide +kernel
theorem dX0_takeLeast_45 : decode cX0_takeLeast 45 = .ok (.goto (-41), 3) := by decide +kernel
theorem dX0_takeLeast_48 : decode cX0_takeLeast 48 = .ok (.iload_n 1, 1) := by decide +kernel
theorem dX0_takeLeast_49 : decode cX0_takeLeast 49 = .ok (.ifCond .lt 10, 3) := by decide +kernel
theorem dX0_takeLeast_52 : decode cX0_takeLeast 52 = .ok (.aload_n 0, 1) := by decide +kernel
theorem dX0_takeLeast_53 : decode cX0_takeLeast 53 = .ok (.getfield 17, 3) := by decide +kernel
theorem dX0_takeLeast_56 : decode cX0_takeLeast 56 = .ok (.iload_n 1, 1) := by decide +kernel
theorem dX0_takeLeast_57 : decode cX0_takeLeast 57 = .ok (.iconst 1, 1) := by decide +kernel
theorem dX0_takeLeast_58 : decode cX0_takeLeast 58 = .ok (.bastore, 1) := by decide +kernel
theorem dX0_takeLeast_59 : decode cX0_takeLeast 59 = .ok (.iload_n 1, 1) := by decide +kernel
theorem dX0_takeLeast_60 : decode cX0_takeLeast 60 = .ok (.ireturn, 1) := by decide +kernel
theorem dX0_size_0 : decode cX0_size 0 = .ok (.aload_n 0, 1) := by decide +kernel
theorem dX0_size_1 : decode cX0_size 1 = .ok (.getfield 43, 3) := by decide +kernel
theorem dX0_size_4 : decode cX0_size 4 = .ok (.ifCond .le 20, 3) := by decide +kernel
theorem dX0_size_7 : decode cX0_size 7 = .ok (.bipush 12, 2) := by decide +kernel
theorem dX0_size_9 : decode cX0_size 9 = .ok (.aload_n 0, 1) := by decide +kernel
theorem dX0_size_10 : decode cX0_size 10 = .ok (.getfield 27, 3) := by decide +kernel
theorem dX0_size_13 : decode cX0_size 13 = .ok (.aload_n 0, 1) := by decide +kernel
theorem dX0_size_14 : decode cX0_size 14 = .ok (.getfield 43, 3) := by decide +kernel
theorem dX0_size_17 : decode cX0_size 17 = .ok (.iconst 1, 1) := by decide +kernel
theorem dX0_size_18 : decode cX0_size 18 = .ok (.isub, 1) := by decide +kernel
theorem dX0_size_19 : decode cX0_size 19 = .ok (.iaload, 1) := by decide +kernel
theorem dX0_size_20 : decode cX0_size 20 = .ok (.iadd, 1) := by decide +kernel
theorem dX0_size_21 : decode cX0_size 21 = .ok (.goto 5, 3) := by decide +kernel
theorem dX0_size_24 : decode cX0_size 24 = .ok (.bipush 12, 2) := by decide +kernel
theorem dX0_size_26 : decode cX0_size 26 = .ok (.ireturn, 1) := by decide +kernel
theorem dX0_spread_0 : decode cX0_spread 0 = .ok (.aload_n 0, 1) := by decide +kernel
theorem dX0_spread_1 : decode cX0_spread 1 = .ok (.getfield 43, 3) := by decide +kernel
theorem dX0_spread_4 : decode cX0_spread 4 = .ok (.ifCond .ne 4, 3) := by decide +kernel
theorem dX0_spread_7 : decode cX0_spread 7 = .ok (.return_, 1) := by decide +kernel
theorem dX0_spread_8 : decode cX0_spread 8 = .ok (.aload_n 0, 1) := by decide +kernel
theorem dX0_spread_9 : decode cX0_spread 9 = .ok (.getfield 43, 3) := by decide +kernel
theorem dX0_spread_12 : decode cX0_spread 12 = .ok (.iconst 1, 1) := by decide +kernel
theorem dX0_spread_13 : decode cX0_spread 13 = .ok (.isub, 1) := by decide +kernel
theorem dX0_spread_14 : decode cX0_spread 14 = .ok (.istore_n 2, 1) := by decide +kernel
theorem dX0_spread_15 : decode cX0_spread 15 = .ok (.aload_n 0, 1) := by decide +kernel
theorem dX0_spread_16 : decode cX0_spread 16 = .ok (.getfield 33, 3) := by decide +kernel
theorem dX0_spread_19 : decode cX0_spread 19 = .ok (.iload_n 2, 1) := by decide +kernel
theorem dX0_spread_20 : decode cX0_spread 20 = .ok (.iload_n 1, 1) := by decide +kernel
theorem dX0_spread_21 : decode cX0_spread 21 = .ok (.bipush 12, 2) := by decide +kernel
theorem dX0_spread_23 : decode cX0_spread 23 = .ok (.iadd, 1) := by decide +kernel
theorem dX0_spread_24 : decode cX0_spread 24 = .ok (.iastore, 1) := by decide +kernel
theorem dX0_spread_25 : decode cX0_spread 25 = .ok (.aload_n 0, 1) := by decide +kernel
theorem dX0_spread_26 : decode cX0_spread 26 = .ok (.getfield 36, 3) := by decide +kernel
theorem dX0_spread_29 : decode cX0_spread 29 = .ok (.iload_n 2, 1) := by decide +kernel
theorem dX0_spread_30 : decode cX0_spread 30 = .ok (.iconst 0, 1) := by decide +kernel
theorem dX0_spread_31 : decode cX0_spread 31 = .ok (.iastore, 1) := by decide +kernel
theorem dX0_spread_32 : decode cX0_spread 32 = .ok (.aload_n 0, 1) := by decide +kernel
theorem dX0_spread_33 : decode cX0_spread 33 = .ok (.getfield 39, 3) := by decide +kernel
theorem dX0_spread_36 : decode cX0_spread 36 = .ok (.iload_n 2, 1) := by decide +kernel
theorem dX0_spread_37 : decode cX0_spread 37 = .ok (.lconst 0, 1) := by decide +kernel
theorem dX0_spread_38 : decode cX0_spread 38 = .ok (.lastore, 1) := by decide +kernel
theorem dX0_spread_39 : decode cX0_spread 39 = .ok (.iload_n 2, 1) := by decide +kernel
theorem dX0_spread_40 : decode cX0_spread 40 = .ok (.istore_n 3, 1) := by decide +kernel
theorem dX0_spread_41 : decode cX0_spread 41 = .ok (.iload_n 3, 1) := by decide +kernel
theorem dX0_spread_42 : decode cX0_spread 42 = .ok (.aload_n 0, 1) := by decide +kernel
theorem dX0_spread_43 : decode cX0_spread 43 = .ok (.getfield 47, 3) := by decide +kernel
theorem dX0_spread_46 : decode cX0_spread 46 = .ok (.if_icmp .lt 128, 3) := by decide +kernel
theorem dX0_spread_49 : decode cX0_spread 49 = .ok (.aload_n 0, 1) := by decide +kernel
theorem dX0_spread_50 : decode cX0_spread 50 = .ok (.getfield 21, 3) := by decide +kernel
theorem dX0_spread_53 : decode cX0_spread 53 = .ok (.iload_n 3, 1) := by decide +kernel
theorem dX0_spread_54 : decode cX0_spread 54 = .ok (.iaload, 1) := by decide +kernel
theorem dX0_spread_55 : decode cX0_spread 55 = .ok (.istore 4, 2) := by decide +kernel
theorem dX0_spread_57 : decode cX0_spread 57 = .ok (.aload_n 0, 1) := by decide +kernel
theorem dX0_spread_58 : decode cX0_spread 58 = .ok (.getfield 24, 3) := by decide +kernel
theorem dX0_spread_61 : decode cX0_spread 61 = .ok (.iload_n 3, 1) := by decide +kernel
theorem dX0_spread_62 : decode cX0_spread 62 = .ok (.iaload, 1) := by decide +kernel
theorem dX0_spread_63 : decode cX0_spread 63 = .ok (.istore 5, 2) := by decide +kernel
theorem dX0_spread_65 : decode cX0_spread 65 = .ok (.aload_n 0, 1) := by decide +kernel
theorem dX0_spread_66 : decode cX0_spread 66 = .ok (.getfield 33, 3) := by decide +kernel
theorem dX0_spread_69 : decode cX0_spread 69 = .ok (.iload 4, 2) := by decide +kernel
theorem dX0_spread_71 : decode cX0_spread 71 = .ok (.aload_n 0, 1) := by decide +kernel
theorem dX0_spread_72 : decode cX0_spread 72 = .ok (.getfield 33, 3) := by decide +kernel
theorem dX0_spread_75 : decode cX0_spread 75 = .ok (.iload_n 3, 1) := by decide +kernel
theorem dX0_spread_76 : decode cX0_spread 76 = .ok (.iaload, 1) := by decide +kernel
theorem dX0_spread_77 : decode cX0_spread 77 = .ok (.bipush 9, 2) := by decide +kernel
theorem dX0_spread_79 : decode cX0_spread 79 = .ok (.iadd, 1) := by decide +kernel
theorem dX0_spread_80 : decode cX0_spread 80 = .ok (.iastore, 1) := by decide +kernel
theorem dX0_spread_81 : decode cX0_spread 81 = .ok (.aload_n 0, 1) := by decide +kernel
theorem dX0_spread_82 : decode cX0_spread 82 = .ok (.getfield 33, 3) := by decide +kernel
theorem dX0_spread_85 : decode cX0_spread 85 = .ok (.iload 5, 2) := by decide +kernel
theorem dX0_spread_87 : decode cX0_spread 87 = .ok (.aload_n 0, 1) := by decide +kernel
theorem dX0_spread_88 : decode cX0_spread 88 = .ok (.getfield 33, 3) := by decide +kernel
theorem dX0_spread_91 : decode cX0_spread 91 = .ok (.iload 4, 2) := by decide +kernel
theorem dX0_spread_93 : decode cX0_spread 93 = .ok (.iaload, 1) := by decide +kernel
theorem dX0_spread_94 : decode cX0_spread 94 = .ok (.aload_n 0, 1) := by decide +kernel
theorem dX0_spread_95 : decode cX0_spread 95 = .ok (.getfield 27, 3) := by decide +kernel
theorem dX0_spread_98 : decode cX0_spread 98 = .ok (.iload 4, 2) := by decide +kernel
theorem dX0_spread_100 : decode cX0_spread 100 = .ok (.iaload, 1) := by decide +kernel
theorem dX0_spread_101 : decode cX0_spread 101 = .ok (.iadd, 1) := by decide +kernel
theorem dX0_spread_102 : decode cX0_spread 102 = .ok (.iastore, 1) := by decide +kernel
theorem dX0_spread_103 : decode cX0_spread 103 = .ok (.aload_n 0, 1) := by decide +kernel
theorem dX0_spread_104 : decode cX0_spread 104 = .ok (.getfield 36, 3) := by decide +kernel
theorem dX0_spread_107 : decode cX0_spread 107 = .ok (.iload 4, 2) := by decide +kernel
theorem dX0_spread_109 : decode cX0_spread 109 = .ok (.aload_n 0, 1) := by decide +kernel
theorem dX0_spread_110 : decode cX0_spread 110 = .ok (.getfield 36, 3) := by decide +kernel
theorem dX0_spread_113 : decode cX0_spread 113 = .ok (.iload_n 3, 1) := by decide +kernel
theorem dX0_spread_114 : decode cX0_spread 114 = .ok (.iaload, 1) := by decide +kernel
theorem dX0_spread_115 : decode cX0_spread 115 = .ok (.iconst 1, 1) := by decide +kernel
theorem dX0_spread_116 : decode cX0_spread 116 = .ok (.iadd, 1) := by decide +kernel
theorem dX0_spread_117 : decode cX0_spread 117 = .ok (.iastore, 1) := by decide +kernel
theorem dX0_spread_118 : decode cX0_spread 118 = .ok (.aload_n 0, 1) := by decide +kernel
theorem dX0_spread_119 : decode cX0_spread 119 = .ok (.getfield 36, 3) := by decide +kernel
theorem dX0_spread_122 : decode cX0_spread 122 = .ok (.iload 5, 2) := by decide +kernel
theorem dX0_spread_124 : decode cX0_spread 124 = .ok (.aload_n 0, 1) := by decide +kernel
theorem dX0_spread_125 : decode cX0_spread 125 = .ok (.getfield 36, 3) := by decide +kernel
theorem dX0_spread_128 : decode cX0_spread 128 = .ok (.iload_n 3, 1) := by decide +kernel
theorem dX0_spread_129 : decode cX0_spread 129 = .ok (.iaload, 1) := by decide +kernel
theorem dX0_spread_130 : decode cX0_spread 130 = .ok (.iconst 1, 1) := by decide +kernel
theorem dX0_spread_131 : decode cX0_spread 131 = .ok (.iadd, 1) := by decide +kernel
theorem dX0_spread_132 : decode cX0_spread 132 = .ok (.iastore, 1) := by decide +kernel
theorem dX0_spread_133 : decode cX0_spread 133 = .ok (.aload_n 0, 1) := by decide +kernel
theorem dX0_spread_134 : decode cX0_spread 134 = .ok (.getfield 39, 3) := by decide +kernel
theorem dX0_spread_137 : decode cX0_spread 137 = .ok (.iload 4, 2) := by decide +kernel
theorem dX0_spread_139 : decode cX0_spread 139 = .ok (.aload_n 0, 1) := by decide +kernel
theorem dX0_spread_140 : decode cX0_spread 140 = .ok (.getfield 39, 3) := by decide +kernel
theorem dX0_spread_143 : decode cX0_spread 143 = .ok (.iload_n 3, 1) := by decide +kernel
theorem dX0_spread_144 : decode cX0_spread 144 = .ok (.laload, 1) := by decide +kernel
theorem dX0_spread_145 : decode cX0_spread 145 = .ok (.lastore, 1) := by decide +kernel
theorem dX0_spread_146 : decode cX0_spread 146 = .ok (.aload_n 0, 1) := by decide +kernel
theorem dX0_spread_147 : decode cX0_spread 147 = .ok (.getfield 39, 3) := by decide +kernel
theorem dX0_spread_150 : decode cX0_spread 150 = .ok (.iload 5, 2) := by decide +kernel
theorem dX0_spread_152 : decode cX0_spread 152 = .ok (.aload_n 0, 1) := by decide +kernel
theorem dX0_spread_153 : decode cX0_spread 153 = .ok (.getfield 39, 3) := by decide +kernel
theorem dX0_spread_156 : decode cX0_spread 156 = .ok (.iload_n 3, 1) := by decide +kernel
theorem dX0_spread_157 : decode cX0_spread 157 = .ok (.laload, 1) := by decide +kernel
theorem dX0_spread_158 : decode cX0_spread 158 = .ok (.lconst 1, 1) := by decide +kernel
theorem dX0_spread_159 : decode cX0_spread 159 = .ok (.aload_n 0, 1) := by decide +kernel
theorem dX0_spread_160 : decode cX0_spread 160 = .ok (.getfield 36, 3) := by decide +kernel
theorem dX0_spread_163 : decode cX0_spread 163 = .ok (.iload_n 3, 1) := by decide +kernel
theorem dX0_spread_164 : decode cX0_spread 164 = .ok (.iaload, 1) := by decide +kernel
theorem dX0_spread_165 : decode cX0_spread 165 = .ok (.lshl, 1) := by decide +kernel
theorem dX0_spread_166 : decode cX0_spread 166 = .ok (.lor, 1) := by decide +kernel
theorem dX0_spread_167 : decode cX0_spread 167 = .ok (.lastore, 1) := by decide +kernel
theorem dX0_spread_168 : decode cX0_spread 168 = .ok (.iinc 3 (-1), 3) := by decide +kernel
theorem dX0_spread_171 : decode cX0_spread 171 = .ok (.goto (-130), 3) := by decide +kernel
theorem dX0_spread_174 : decode cX0_spread 174 = .ok (.return_, 1) := by decide +kernel
theorem dX0_putNodes_0 : decode cX0_putNodes 0 = .ok (.aload_n 1, 1) := by decide +kernel
theorem dX0_putNodes_1 : decode cX0_putNodes 1 = .ok (.iload_n 3, 1) := by decide +kernel
theorem dX0_putNodes_2 : decode cX0_putNodes 2 = .ok (.aload_n 0, 1) := by decide +kernel
theorem dX0_putNodes_3 : decode cX0_putNodes 3 = .ok (.invokevirtual 60, 3) := by decide +kernel
theorem dX0_putNodes_6 : decode cX0_putNodes 6 = .ok (.invokevirtual 63, 3) := by decide +kernel
theorem dX0_putNodes_9 : decode cX0_putNodes 9 = .ok (.aload_n 1, 1) := by decide +kernel
theorem dX0_putNodes_10 : decode cX0_putNodes 10 = .ok (.iload_n 3, 1) := by decide +kernel
theorem dX0_putNodes_11 : decode cX0_putNodes 11 = .ok (.iconst 4, 1) := by decide +kernel
theorem dX0_putNodes_12 : decode cX0_putNodes 12 = .ok (.iadd, 1) := by decide +kernel
theorem dX0_putNodes_13 : decode cX0_putNodes 13 = .ok (.aload_n 0, 1) := by decide +kernel
theorem dX0_putNodes_14 : decode cX0_putNodes 14 = .ok (.getfield 43, 3) := by decide +kernel
theorem dX0_putNodes_17 : decode cX0_putNodes 17 = .ok (.invokevirtual 63, 3) := by decide +kernel
theorem dX0_putNodes_20 : decode cX0_putNodes 20 = .ok (.aload_n 1, 1) := by decide +kernel
theorem dX0_putNodes_21 : decode cX0_putNodes 21 = .ok (.iload_n 3, 1) := by decide +kernel
theorem dX0_putNodes_22 : decode cX0_putNodes 22 = .ok (.bipush 8, 2) := by decide +kernel
theorem dX0_putNodes_24 : decode cX0_putNodes 24 = .ok (.iadd, 1) := by decide +kernel
theorem dX0_putNodes_25 : decode cX0_putNodes 25 = .ok (.iload_n 3, 1) := by decide +kernel
theorem dX0_putNodes_26 : decode cX0_putNodes 26 = .ok (.bipush 12, 2) := by decide +kernel
theorem dX0_putNodes_28 : decode cX0_putNodes 28 = .ok (.iadd, 1) := by decide +kernel
theorem dX0_putNodes_29 : decode cX0_putNodes 29 = .ok (.invokevirtual 63, 3) := by decide +kernel
theorem dX0_putNodes_32 : decode cX0_putNodes 32 = .ok (.iconst 0, 1) := by decide +kernel
theorem dX0_putNodes_33 : decode cX0_putNodes 33 = .ok (.istore 4, 2) := by decide +kernel
theorem dX0_putNodes_35 : decode cX0_putNodes 35 = .ok (.iload 4, 2) := by decide +kernel
theorem dX0_putNodes_37 : decode cX0_putNodes 37 = .ok (.aload_n 0, 1) := by decide +kernel
theorem dX0_putNodes_38 : decode cX0_putNodes 38 = .ok (.getfield 43, 3) := by decide +kernel
theorem dX0_putNodes_41 : decode cX0_putNodes 41 = .ok (.if_icmp .ge 72, 3) := by decide +kernel
theorem dX0_putNodes_44 : decode cX0_putNodes 44 = .ok (.iload 4, 2) := by decide +kernel
theorem dX0_putNodes_46 : decode cX0_putNodes 46 = .ok (.aload_n 0, 1) := by decide +kernel
theorem dX0_putNodes_47 : decode cX0_putNodes 47 = .ok (.getfield 47, 3) := by decide +kernel
theorem dX0_putNodes_50 : decode cX0_putNodes 50 = .ok (.if_icmp .lt 13, 3) := by decide +kernel
theorem dX0_putNodes_53 : decode cX0_putNodes 53 = .ok (.aload_n 0, 1) := by decide +kernel
theorem dX0_putNodes_54 : decode cX0_putNodes 54 = .ok (.aload_n 1, 1) := by decide +kernel
theorem dX0_putNodes_55 : decode cX0_putNodes 55 = .ok (.iload 4, 2) := by decide +kernel
theorem dX0_putNodes_57 : decode cX0_putNodes 57 = .ok (.invokevirtual 68, 3) := by decide +kernel
theorem dX0_putNodes_60 : decode cX0_putNodes 60 = .ok (.goto 47, 3) := by decide +kernel
theorem dX0_putNodes_63 : decode cX0_putNodes 63 = .ok (.aload_n 0, 1) := by decide +kernel
theorem dX0_putNodes_64 : decode cX0_putNodes 64 = .ok (.getfield 30, 3) := by decide +kernel
theorem dX0_putNodes_67 : decode cX0_putNodes 67 = .ok (.iload 4, 2) := by decide +kernel
theorem dX0_putNodes_69 : decode cX0_putNodes 69 = .ok (.iaload, 1) := by decide +kernel
theorem dX0_putNodes_70 : decode cX0_putNodes 70 = .ok (.ifCond .ge 18, 3) := by decide +kernel
theorem dX0_putNodes_73 : decode cX0_putNodes 73 = .ok (.aload_n 1, 1) := by decide +kernel
theorem dX0_putNodes_74 : decode cX0_putNodes 74 = .ok (.aload_n 0, 1) := by decide +kernel
theorem dX0_putNodes_75 : decode cX0_putNodes 75 = .ok (.getfield 33, 3) := by decide +kernel
theorem dX0_putNodes_78 : decode cX0_putNodes 78 = .ok (.iload 4, 2) := by decide +kernel
theorem dX0_putNodes_80 : decode cX0_putNodes 80 = .ok (.iaload, 1) := by decide +kernel
theorem dX0_putNodes_81 : decode cX0_putNodes 81 = .ok (.iconst 1, 1) := by decide +kernel
theorem dX0_putNodes_82 : decode cX0_putNodes 82 = .ok (.invokevirtual 72, 3) := by decide +kernel
theorem dX0_putNodes_85 : decode cX0_putNodes 85 = .ok (.goto 22, 3) := by decide +kernel
theorem dX0_putNodes_88 : decode cX0_putNodes 88 = .ok (.aload_n 2, 1) := by decide +kernel
theorem dX0_putNodes_89 : decode cX0_putNodes 89 = .ok (.aload_n 1, 1) := by decide +kernel
theorem dX0_putNodes_90 : decode cX0_putNodes 90 = .ok (.aload_n 0, 1) := by decide +kernel
theorem dX0_putNodes_91 : decode cX0_putNodes 91 = .ok (.getfield 30, 3) := by decide +kernel
theorem dX0_putNodes_94 : decode cX0_putNodes 94 = .ok (.iload 4, 2) := by decide +kernel
theorem dX0_putNodes_96 : decode cX0_putNodes 96 = .ok (.iaload, 1) := by decide +kernel
theorem dX0_putNodes_97 : decode cX0_putNodes 97 = .ok (.aload_n 0, 1) := by decide +kernel
theorem dX0_putNodes_98 : decode cX0_putNodes 98 = .ok (.getfield 33, 3) := by decide +kernel
theorem dX0_putNodes_101 : decode cX0_putNodes 101 = .ok (.iload 4, 2) := by decide +kernel
theorem dX0_putNodes_103 : decode cX0_putNodes 103 = .ok (.iaload, 1) := by decide +kernel
theorem dX0_putNodes_104 : decode cX0_putNodes 104 = .ok (.invokevirtual 75, 3) := by decide +kernel
theorem dX0_putNodes_107 : decode cX0_putNodes 107 = .ok (.iinc 4 1, 3) := by decide +kernel
theorem dX0_putNodes_110 : decode cX0_putNodes 110 = .ok (.goto (-75), 3) := by decide +kernel
theorem dX0_putNodes_113 : decode cX0_putNodes 113 = .ok (.return_, 1) := by decide +kernel
theorem dX0_putBranch_0 : decode cX0_putBranch 0 = .ok (.aload_n 1, 1) := by decide +kernel
theorem dX0_putBranch_1 : decode cX0_putBranch 1 = .ok (.aload_n 0, 1) := by decide +kernel
theorem dX0_putBranch_2 : decode cX0_putBranch 2 = .ok (.getfield 33, 3) := by decide +kernel
theorem dX0_putBranch_5 : decode cX0_putBranch 5 = .ok (.iload_n 2, 1) := by decide +kernel
theorem dX0_putBranch_6 : decode cX0_putBranch 6 = .ok (.iaload, 1) := by decide +kernel
theorem dX0_putBranch_7 : decode cX0_putBranch 7 = .ok (.iconst 0, 1) := by decide +kernel
theorem dX0_putBranch_8 : decode cX0_putBranch 8 = .ok (.invokevirtual 72, 3) := by decide +kernel
theorem dX0_putBranch_11 : decode cX0_putBranch 11 = .ok (.aload_n 1, 1) := by decide +kernel
theorem dX0_putBranch_12 : decode cX0_putBranch 12 = .ok (.aload_n 0, 1) := by decide +kernel
theorem dX0_putBranch_13 : decode cX0_putBranch 13 = .ok (.getfield 33, 3) := by decide +kernel
theorem dX0_putBranch_16 : decode cX0_putBranch 16 = .ok (.iload_n 2, 1) := by decide +kernel
theorem dX0_putBranch_17 : decode cX0_putBranch 17 = .ok (.iaload, 1) := by decide +kernel
theorem dX0_putBranch_18 : decode cX0_putBranch 18 = .ok (.iconst 1, 1) := by decide +kernel
theorem dX0_putBranch_19 : decode cX0_putBranch 19 = .ok (.iadd, 1) := by decide +kernel
theorem dX0_putBranch_20 : decode cX0_putBranch 20 = .ok (.aload_n 0, 1) := by decide +kernel
theorem dX0_putBranch_21 : decode cX0_putBranch 21 = .ok (.getfield 33, 3) := by decide +kernel
theorem dX0_putBranch_24 : decode cX0_putBranch 24 = .ok (.aload_n 0, 1) := by decide +kernel
theorem dX0_putBranch_25 : decode cX0_putBranch 25 = .ok (.getfield 21, 3) := by decide +kernel
theorem dX0_putBranch_28 : decode cX0_putBranch 28 = .ok (.iload_n 2, 1) := by decide +kernel
theorem dX0_putBranch_29 : decode cX0_putBranch 29 = .ok (.iaload, 1) := by decide +kernel
theorem dX0_putBranch_30 : decode cX0_putBranch 30 = .ok (.iaload, 1) := by decide +kernel
theorem dX0_putBranch_31 : decode cX0_putBranch 31 = .ok (.invokevirtual 63, 3) := by decide +kernel
theorem dX0_putBranch_34 : decode cX0_putBranch 34 = .ok (.aload_n 1, 1) := by decide +kernel
theorem dX0_putBranch_35 : decode cX0_putBranch 35 = .ok (.aload_n 0, 1) := by decide +kernel
theorem dX0_putBranch_36 : decode cX0_putBranch 36 = .ok (.getfield 33, 3) := by decide +kernel
theorem dX0_putBranch_39 : decode cX0_putBranch 39 = .ok (.iload_n 2, 1) := by decide +kernel
theorem dX0_putBranch_40 : decode cX0_putBranch 40 = .ok (.iaload, 1) := by decide +kernel
theorem dX0_putBranch_41 : decode cX0_putBranch 41 = .ok (.iconst 5, 1) := by decide +kernel
theorem dX0_putBranch_42 : decode cX0_putBranch 42 = .ok (.iadd, 1) := by decide +kernel
theorem dX0_putBranch_43 : decode cX0_putBranch 43 = .ok (.aload_n 0, 1) := by decide +kernel
theorem dX0_putBranch_44 : decode cX0_putBranch 44 = .ok (.getfield 33, 3) := by decide +kernel
theorem dX0_putBranch_47 : decode cX0_putBranch 47 = .ok (.aload_n 0, 1) := by decide +kernel
theorem dX0_putBranch_48 : decode cX0_putBranch 48 = .ok (.getfield 24, 3) := by decide +kernel
theorem dX0_putBranch_51 : decode cX0_putBranch 51 = .ok (.iload_n 2, 1) := by decide +kernel
theorem dX0_putBranch_52 : decode cX0_putBranch 52 = .ok (.iaload, 1) := by decide +kernel
theorem dX0_putBranch_53 : decode cX0_putBranch 53 = .ok (.iaload, 1) := by decide +kernel
theorem dX0_putBranch_54 : decode cX0_putBranch 54 = .ok (.invokevirtual 63, 3) := by decide +kernel
theorem dX0_putBranch_57 : decode cX0_putBranch 57 = .ok (.return_, 1) := by decide +kernel
theorem dX1_init_0 : decode cX1_init 0 = .ok (.aload_n 0, 1) := by decide +kernel
theorem dX1_init_1 : decode cX1_init 1 = .ok (.invokespecial 3, 3) := by decide +kernel
theorem dX1_init_4 : decode cX1_init 4 = .ok (.aload_n 0, 1) := by decide +kernel
theorem dX1_init_5 : decode cX1_init 5 = .ok (.bipush 8, 2) := by decide +kernel
theorem dX1_init_7 : decode cX1_init 7 = .ok (.newarray .int, 2) := by decide +kernel
theorem dX1_init_9 : decode cX1_init 9 = .ok (.putfield 11, 3) := by decide +kernel
theorem dX1_init_12 : decode cX1_init 12 = .ok (.aload_n 0, 1) := by decide +kernel
theorem dX1_init_13 : decode cX1_init 13 = .ok (.iconst 0, 1) := by decide +kernel
theorem dX1_init_14 : decode cX1_init 14 = .ok (.putfield 15, 3) := by decide +kernel
theorem dX1_init_17 : decode cX1_init 17 = .ok (.aload_n 0, 1) := by decide +kernel
theorem dX1_init_18 : decode cX1_init 18 = .ok (.iconst 0, 1) := by decide +kernel
theorem dX1_init_19 : decode cX1_init 19 = .ok (.putfield 19, 3) := by decide +kernel
theorem dX1_init_22 : decode cX1_init 22 = .ok (.aload_n 0, 1) := by decide +kernel
theorem dX1_init_23 : decode cX1_init 23 = .ok (.iconst 0, 1) := by decide +kernel
theorem dX1_init_24 : decode cX1_init 24 = .ok (.putfield 22, 3) := by decide +kernel
theorem dX1_init_27 : decode cX1_init 27 = .ok (.aload_n 0, 1) := by decide +kernel
theorem dX1_init_28 : decode cX1_init 28 = .ok (.iconst 0, 1) := by decide +kernel
theorem dX1_init_29 : decode cX1_init 29 = .ok (.putfield 25, 3) := by decide +kernel
theorem dX1_init_32 : decode cX1_init 32 = .ok (.aload_n 0, 1) := by decide +kernel
theorem dX1_init_33 : decode cX1_init 33 = .ok (.iconst 1, 1) := by decide +kernel
theorem dX1_init_34 : decode cX1_init 34 = .ok (.putfield 28, 3) := by decide +kernel
theorem dX1_init_37 : decode cX1_init 37 = .ok (.aload_n 0, 1) := by decide +kernel
theorem dX1_init_38 : decode cX1_init 38 = .ok (.iconst 0, 1) := by decide +kernel
theorem dX1_init_39 : decode cX1_init 39 = .ok (.putfield 32, 3) := by decide +kernel
theorem dX1_init_42 : decode cX1_init 42 = .ok (.aload_n 0, 1) := by decide +kernel
theorem dX1_init_43 : decode cX1_init 43 = .ok (.sipush 255, 3) := by decide +kernel
theorem dX1_init_46 : decode cX1_init 46 = .ok (.putfield 35, 3) := by decide +kernel
theorem dX1_init_49 : decode cX1_init 49 = .ok (.return_, 1) := by decide +kernel
theorem dX1_reset_0 : decode cX1_reset 0 = .ok (.aload_n 0, 1) := by decide +kernel
theorem dX1_reset_1 : decode cX1_reset 1 = .ok (.iload_n 1, 1) := by decide +kernel
theorem dX1_reset_2 : decode cX1_reset 2 = .ok (.putfield 15, 3) := by decide +kernel
theorem dX1_reset_5 : decode cX1_reset 5 = .ok (.aload_n 0, 1) := by decide +kernel
theorem dX1_reset_6 : decode cX1_reset 6 = .ok (.iload_n 2, 1) := by decide +kernel
theorem dX1_reset_7 : decode cX1_reset 7 = .ok (.putfield 19, 3) := by decide +kernel
theorem dX1_reset_10 : decode cX1_reset 10 = .ok (.aload_n 0, 1) := by decide +kernel
theorem dX1_reset_11 : decode cX1_reset 11 = .ok (.iconst 0, 1) := by decide +kernel
theorem dX1_reset_12 : decode cX1_reset 12 = .ok (.putfield 22, 3) := by decide +kernel
theorem dX1_reset_15 : decode cX1_reset 15 = .ok (.aload_n 0, 1) := by decide +kernel
theorem dX1_reset_16 : decode cX1_reset 16 = .ok (.iconst 0, 1) := by decide +kernel
theorem dX1_reset_17 : decode cX1_reset 17 = .ok (.putfield 25, 3) := by decide +kernel
theorem dX1_reset_20 : decode cX1_reset 20 = .ok (.aload_n 0, 1) := by decide +kernel
theorem dX1_reset_21 : decode cX1_reset 21 = .ok (.iconst 1, 1) := by decide +kernel
theorem dX1_reset_22 : decode cX1_reset 22 = .ok (.putfield 28, 3) := by decide +kernel
theorem dX1_reset_25 : decode cX1_reset 25 = .ok (.aload_n 0, 1) := by decide +kernel
theorem dX1_reset_26 : decode cX1_reset 26 = .ok (.iconst 0, 1) := by decide +kernel
theorem dX1_reset_27 : decode cX1_reset 27 = .ok (.putfield 32, 3) := by decide +kernel
theorem dX1_reset_30 : decode cX1_reset 30 = .ok (.aload_n 0, 1) := by decide +kernel
theorem dX1_reset_31 : decode cX1_reset 31 = .ok (.sipush 255, 3) := by decide +kernel
theorem dX1_reset_34 : decode cX1_reset 34 = .ok (.putfield 35, 3) := by decide +kernel
theorem dX1_reset_37 : decode cX1_reset 37 = .ok (.return_, 1) := by decide +kernel
theorem dX1_hasLocal_0 : decode cX1_hasLocal 0 = .ok (.iload_n 1, 1) := by decide +kernel
theorem dX1_hasLocal_1 : decode cX1_hasLocal 1 = .ok (.ifCond .lt 21, 3) := by decide +kernel
theorem dX1_hasLocal_4 : decode cX1_hasLocal 4 = .ok (.iload_n 1, 1) := by decide +kernel
theorem dX1_hasLocal_5 : decode cX1_hasLocal 5 = .ok (.aload_n 0, 1) := by decide +kernel
theorem dX1_hasLocal_6 : decode cX1_hasLocal 6 = .ok (.getfield 25, 3) := by decide +kernel
theorem dX1_hasLocal_9 : decode cX1_hasLocal 9 = .ok (.if_icmp .ge 13, 3) := by decide +kernel
theorem dX1_hasLocal_12 : decode cX1_hasLocal 12 = .ok (.iload_n 1, 1) := by decide +kernel
theorem dX1_hasLocal_13 : decode cX1_hasLocal 13 = .ok (.bipush 8, 2) := by decide +kernel
theorem dX1_hasLocal_15 : decode cX1_hasLocal 15 = .ok (.if_icmp .ge 7, 3) := by decide +kernel
theorem dX1_hasLocal_18 : decode cX1_hasLocal 18 = .ok (.iconst 1, 1) := by decide +kernel
theorem dX1_hasLocal_19 : decode cX1_hasLocal 19 = .ok (.goto 4, 3) := by decide +kernel
theorem dX1_hasLocal_22 : decode cX1_hasLocal 22 = .ok (.iconst 0, 1) := by decide +kernel
theorem dX1_hasLocal_23 : decode cX1_hasLocal 23 = .ok (.ireturn, 1) := by decide +kernel
theorem dX1_setLocal_0 : decode cX1_setLocal 0 = .ok (.iload_n 1, 1) := by decide +kernel
theorem dX1_setLocal_1 : decode cX1_setLocal 1 = .ok (.ifCond .lt 24, 3) := by decide +kernel
theorem dX1_setLocal_4 : decode cX1_setLocal 4 = .ok (.iload_n 1, 1) := by decide +kernel
theorem dX1_setLocal_5 : decode cX1_setLocal 5 = .ok (.aload_n 0, 1) := by decide +kernel
theorem dX1_setLocal_6 : decode cX1_setLocal 6 = .ok (.getfield 25, 3) := by decide +kernel
theorem dX1_setLocal_9 : decode cX1_setLocal 9 = .ok (.if_icmp .ge 16, 3) := by decide +kernel
theorem dX1_setLocal_12 : decode cX1_setLocal 12 = .ok (.iload_n 1, 1) := by decide +kernel
theorem dX1_setLocal_13 : decode cX1_setLocal 13 = .ok (.bipush 8, 2) := by decide +kernel
theorem dX1_setLocal_15 : decode cX1_setLocal 15 = .ok (.if_icmp .ge 10, 3) := by decide +kernel
theorem dX1_setLocal_18 : decode cX1_setLocal 18 = .ok (.aload_n 0, 1) := by decide +kernel
theorem dX1_setLocal_19 : decode cX1_setLocal 19 = .ok (.getfield 11, 3) := by decide +kernel
theorem dX1_setLocal_22 : decode cX1_setLocal 22 = .ok (.iload_n 1, 1) := by decide +kernel
theorem dX1_setLocal_23 : decode cX1_setLocal 23 = .ok (.iload_n 2, 1) := by decide +kernel
theorem dX1_setLocal_24 : decode cX1_setLocal 24 = .ok (.iastore, 1) := by decide +kernel
theorem dX1_setLocal_25 : decode cX1_setLocal 25 = .ok (.return_, 1) := by decide +kernel
theorem dX1_tell_0 : decode cX1_tell 0 = .ok (.iload_n 1, 1) := by decide +kernel
theorem dX1_tell_1 : decode cX1_tell 1 = .ok (.tableswitch 60 0 4 #[35, 40, 45, 50, 55], 35) := by decide +kernel
theorem dX1_tell_36 : decode cX1_tell 36 = .ok (.aload_n 0, 1) := by decide +kernel
theorem dX1_tell_37 : decode cX1_tell 37 = .ok (.getfield 15, 3) := by decide +kernel
theorem dX1_tell_40 : decode cX1_tell 40 = .ok (.ireturn, 1) := by decide +kernel
theorem dX1_tell_41 : decode cX1_tell 41 = .ok (.aload_n 0, 1) := by decide +kernel
theorem dX1_tell_42 : decode cX1_tell 42 = .ok (.getfield 19, 3) := by decide +kernel
theorem dX1_tell_45 : decode cX1_tell 45 = .ok (.ireturn, 1) := by decide +kernel
theorem dX1_tell_46 : decode cX1_tell 46 = .ok (.aload_n 0, 1) := by decide +kernel
theorem dX1_tell_47 : decode cX1_tell 47 = .ok (.getfield 22, 3) := by decide +kernel
theorem dX1_tell_50 : decode cX1_tell 50 = .ok (.ireturn, 1) := by decide +kernel
theorem dX1_tell_51 : decode cX1_tell 51 = .ok (.aload_n 0, 1) := by decide +kernel
theorem dX1_tell_52 : decode cX1_tell 52 = .ok (.getfield 25, 3) := by decide +kernel
theorem dX1_tell_55 : decode cX1_tell 55 = .ok (.ireturn, 1) := by decide +kernel
theorem dX1_tell_56 : decode cX1_tell 56 = .ok (.aload_n 0, 1) := by decide +kernel
theorem dX1_tell_57 : decode cX1_tell 57 = .ok (.invokevirtual 38, 3) := by decide +kernel
theorem dX1_tell_60 : decode cX1_tell 60 = .ok (.ireturn, 1) := by decide +kernel
theorem dX1_tell_61 : decode cX1_tell 61 = .ok (.iload_n 1, 1) := by decide +kernel
theorem dX1_tell_62 : decode cX1_tell 62 = .ok (.bipush 10, 2) := by decide +kernel
theorem dX1_tell_64 : decode cX1_tell 64 = .ok (.if_icmp .lt 26, 3) := by decide +kernel
theorem dX1_tell_67 : decode cX1_tell 67 = .ok (.aload_n 0, 1) := by decide +kernel
theorem dX1_tell_68 : decode cX1_tell 68 = .ok (.iload_n 1, 1) := by decide +kernel
theorem dX1_tell_69 : decode cX1_tell 69 = .ok (.bipush 10, 2) := by decide +kernel
theorem dX1_tell_71 : decode cX1_tell 71 = .ok (.isub, 1) := by decide +kernel
theorem dX1_tell_72 : decode cX1_tell 72 = .ok (.invokevirtual 42, 3) := by decide +kernel
theorem dX1_tell_75 : decode cX1_tell 75 = .ok (.ifCond .eq 15, 3) := by decide +kernel
theorem dX1_tell_78 : decode cX1_tell 78 = .ok (.aload_n 0, 1) := by decide +kernel
theorem dX1_tell_79 : decode cX1_tell 79 = .ok (.getfield 11, 3) := by decide +kernel
theorem dX1_tell_82 : decode cX1_tell 82 = .ok (.iload_n 1, 1) := by decide +kernel
theorem dX1_tell_83 : decode cX1_tell 83 = .ok (.bipush 10, 2) := by decide +kernel
theorem dX1_tell_85 : decode cX1_tell 85 = .ok (.isub, 1) := by decide +kernel
theorem dX1_tell_86 : decode cX1_tell 86 = .ok (.iaload, 1) := by decide +kernel
theorem dX1_tell_87 : decode cX1_tell 87 = .ok (.goto 4, 3) := by decide +kernel
theorem dX1_tell_90 : decode cX1_tell 90 = .ok (.iconst 0, 1) := by decide +kernel
theorem dX1_tell_91 : decode cX1_tell 91 = .ok (.ireturn, 1) := by decide +kernel
theorem dX1_tellNode_0 : decode cX1_tellNode 0 = .ok (.aload_n 0, 1) := by decide +kernel
theorem dX1_tellNode_1 : decode cX1_tellNode 1 = .ok (.getfield 15, 3) := by decide +kernel
theorem dX1_tellNode_4 : decode cX1_tellNode 4 = .ok (.iconst 3, 1) := by decide +kernel
theorem dX1_tellNode_5 : decode cX1_tellNode 5 = .ok (.if_icmp .eq 5, 3) := by decide +kernel
theorem dX1_tellNode_8 : decode cX1_tellNode 8 = .ok (.iconst 0, 1) := by decide +kernel
theorem dX1_tellNode_9 : decode cX1_tellNode 9 = .ok (.ireturn, 1) := by decide +kernel
theorem dX1_tellNode_10 : decode cX1_tellNode 10 = .ok (.aload_n 0, 1) := by decide +kernel
theorem dX1_tellNode_11 : decode cX1_tellNode 11 = .ok (.getfield 28, 3) := by decide +kernel
theorem dX1_tellNode_14 : decode cX1_tellNode 14 = .ok (.ifCond .eq 7, 3) := by decide +kernel
theorem dX1_tellNode_17 : decode cX1_tellNode 17 = .ok (.iconst (-1), 1) := by decide +kernel
theorem dX1_tellNode_18 : decode cX1_tellNode 18 = .ok (.goto 7, 3) := by decide +kernel
theorem dX1_tellNode_21 : decode cX1_tellNode 21 = .ok (.aload_n 0, 1) := by decide +kernel
theorem dX1_tellNode_22 : decode cX1_tellNode 22 = .ok (.getfield 32, 3) := by decide +kernel
theorem dX1_tellNode_25 : decode cX1_tellNode 25 = .ok (.ireturn, 1) := by decide +kernel
theorem dX2_init_0 : decode cX2_init 0 = .ok (.aload_n 0, 1) := by decide +kernel
theorem dX2_init_1 : decode cX2_init 1 = .ok (.invokespecial 3, 3) := by decide +kernel
theorem dX2_init_4 : decode cX2_init 4 = .ok (.aload_n 0, 1) := by decide +kernel
theorem dX2_init_5 : decode cX2_init 5 = .ok (.new 9, 3) := by decide +kernel
theorem dX2_init_8 : decode cX2_init 8 = .ok (.dup, 1) := by decide +kernel
theorem dX2_init_9 : decode cX2_init 9 = .ok (.invokespecial 11, 3) := by decide +kernel
theorem dX2_init_12 : decode cX2_init 12 = .ok (.putfield 12, 3) := by decide +kernel
theorem dX2_init_15 : decode cX2_init 15 = .ok (.aload_n 0, 1) := by decide +kernel
theorem dX2_init_16 : decode cX2_init 16 = .ok (.bipush 40, 2) := by decide +kernel
theorem dX2_init_18 : decode cX2_init 18 = .ok (.anewarray 18, 3) := by decide +kernel
theorem dX2_init_21 : decode cX2_init 21 = .ok (.putfield 20, 3) := by decide +kernel
theorem dX2_init_24 : decode cX2_init 24 = .ok (.aload_n 0, 1) := by decide +kernel
theorem dX2_init_25 : decode cX2_init 25 = .ok (.sipush 1000, 3) := by decide +kernel
theorem dX2_init_28 : decode cX2_init 28 = .ok (.newarray .int, 2) := by decide +kernel
theorem dX2_init_30 : decode cX2_init 30 = .ok (.putfield 24, 3) := by decide +kernel
theorem dX2_init_33 : decode cX2_init 33 = .ok (.aload_n 0, 1) := by decide +kernel
theorem dX2_init_34 : decode cX2_init 34 = .ok (.iconst 4, 1) := by decide +kernel
theorem dX2_init_35 : decode cX2_init 35 = .ok (.newarray .int, 2) := by decide +kernel
theorem dX2_init_37 : decode cX2_init 37 = .ok (.putfield 28, 3) := by decide +kernel
theorem dX2_init_40 : decode cX2_init 40 = .ok (.aload_n 0, 1) := by decide +kernel
theorem dX2_init_41 : decode cX2_init 41 = .ok (.iconst 0, 1) := by decide +kernel
theorem dX2_init_42 : decode cX2_init 42 = .ok (.putfield 31, 3) := by decide +kernel
theorem dX2_init_45 : decode cX2_init 45 = .ok (.aload_n 0, 1) := by decide +kernel
theorem dX2_init_46 : decode cX2_init 46 = .ok (.iconst 0, 1) := by decide +kernel
theorem dX2_init_47 : decode cX2_init 47 = .ok (.putfield 35, 3) := by decide +kernel
theorem dX2_init_50 : decode cX2_init 50 = .ok (.aload_n 0, 1) := by decide +kernel
theorem dX2_init_51 : decode cX2_init 51 = .ok (.iconst 0, 1) := by decide +kernel
theorem dX2_init_52 : decode cX2_init 52 = .ok (.putfield 38, 3) := by decide +kernel
theorem dX2_init_55 : decode cX2_init 55 = .ok (.aload_n 0, 1) := by decide +kernel
theorem dX2_init_56 : decode cX2_init 56 = .ok (.iconst 0, 1) := by decide +kernel
theorem dX2_init_57 : decode cX2_init 57 = .ok (.putfield 41, 3) := by decide +kernel
theorem dX2_init_60 : decode cX2_init 60 = .ok (.aload_n 0, 1) := by decide +kernel
theorem dX2_init_61 : decode cX2_init 61 = .ok (.iconst 0, 1) := by decide +kernel
theorem dX2_init_62 : decode cX2_init 62 = .ok (.putfield 44, 3) := by decide +kernel
theorem dX2_init_65 : decode cX2_init 65 = .ok (.aload_n 0, 1) := by decide +kernel
theorem dX2_init_66 : decode cX2_init 66 = .ok (.iconst 0, 1) := by decide +kernel
theorem dX2_init_67 : decode cX2_init 67 = .ok (.putfield 47, 3) := by decide +kernel
theorem dX2_init_70 : decode cX2_init 70 = .ok (.aload_n 0, 1) := by decide +kernel
theorem dX2_init_71 : decode cX2_init 71 = .ok (.iconst 0, 1) := by decide +kernel
theorem dX2_init_72 : decode cX2_init 72 = .ok (.putfield 50, 3) := by decide +kernel
theorem dX2_init_75 : decode cX2_init 75 = .ok (.aload_n 0, 1) := by decide +kernel
theorem dX2_init_76 : decode cX2_init 76 = .ok (.aload_n 1, 1) := by decide +kernel
theorem dX2_init_77 : decode cX2_init 77 = .ok (.putfield 53, 3) := by decide +kernel
theorem dX2_init_80 : decode cX2_init 80 = .ok (.aload_n 0, 1) := by decide +kernel
theorem dX2_init_81 : decode cX2_init 81 = .ok (.aload_n 2, 1) := by decide +kernel
theorem dX2_init_82 : decode cX2_init 82 = .ok (.putfield 57, 3) := by decide +kernel
theorem dX2_init_85 : decode cX2_init 85 = .ok (.iconst 0, 1) := by decide +kernel
theorem dX2_init_86 : decode cX2_init 86 = .ok (.istore_n 3, 1) := by decide +kernel
theorem dX2_init_87 : decode cX2_init 87 = .ok (.iload_n 3, 1) := by decide +kernel
theorem dX2_init_88 : decode cX2_init 88 = .ok (.bipush 40, 2) := by decide +kernel
theorem dX2_init_90 : decode cX2_init 90 = .ok (.if_icmp .ge 22, 3) := by decide +kernel
theorem dX2_init_93 : decode cX2_init 93 = .ok (.aload_n 0, 1) := by decide +kernel
theorem dX2_init_94 : decode cX2_init 94 = .ok (.getfield 20, 3) := by decide +kernel
theorem dX2_init_97 : decode cX2_init 97 = .ok (.iload_n 3, 1) := by decide +kernel
theorem dX2_init_98 : decode cX2_init 98 = .ok (.new 18, 3) := by decide +kernel
theorem dX2_init_101 : decode cX2_init 101 = .ok (.dup, 1) := by decide +kernel
theorem dX2_init_102 : decode cX2_init 102 = .ok (.invokespecial 61, 3) := by decide +kernel
theorem dX2_init_105 : decode cX2_init 105 = .ok (.aastore, 1) := by decide +kernel
theorem dX2_init_106 : decode cX2_init 106 = .ok (.iinc 3 1, 3) := by decide +kernel
theorem dX2_init_109 : decode cX2_init 109 = .ok (.goto (-22), 3) := by decide +kernel
theorem dX2_init_112 : decode cX2_init 112 = .ok (.return_, 1) := by decide +kernel
theorem dX2_isSystem_0 : decode cX2_isSystem 0 = .ok (.iload_n 0, 1) := by decide +kernel
theorem dX2_isSystem_1 : decode cX2_isSystem 1 = .ok (.ifCond .lt 12, 3) := by decide +kernel
theorem dX2_isSystem_4 : decode cX2_isSystem 4 = .ok (.iload_n 0, 1) := by decide +kernel
theorem dX2_isSystem_5 : decode cX2_isSystem 5 = .ok (.iconst 2, 1) := by decide +kernel
theorem dX2_isSystem_6 : decode cX2_isSystem 6 = .ok (.if_icmp .gt 7, 3) := by decide +kernel
theorem dX2_isSystem_9 : decode cX2_isSystem 9 = .ok (.iconst 1, 1) := by decide +kernel
theorem dX2_isSystem_10 : decode cX2_isSystem 10 = .ok (.goto 4, 3) := by decide +kernel
theorem dX2_isSystem_13 : decode cX2_isSystem 13 = .ok (.iconst 0, 1) := by decide +kernel
theorem dX2_isSystem_14 : decode cX2_isSystem 14 = .ok (.ireturn, 1) := by decide +kernel
theorem dX2_setSystem_0 : decode cX2_setSystem 0 = .ok (.aload_n 0, 1) := by decide +kernel
theorem dX2_setSystem_1 : decode cX2_setSystem 1 = .ok (.iload_n 1, 1) := by decide +kernel
theorem dX2_setSystem_2 : decode cX2_setSystem 2 = .ok (.invokestatic 62, 3) := by decide +kernel
theorem dX2_setSystem_5 : decode cX2_setSystem 5 = .ok (.ifCond .eq 7, 3) := by decide +kernel
theorem dX2_setSystem_8 : decode cX2_setSystem 8 = .ok (.iload_n 1, 1) := by decide +kernel
theorem dX2_setSystem_9 : decode cX2_setSystem 9 = .ok (.goto 4, 3) := by decide +kernel
theorem dX2_setSystem_12 : decode cX2_setSystem 12 = .ok (.iconst 0, 1) := by decide +kernel
theorem dX2_setSystem_13 : decode cX2_setSystem 13 = .ok (.putfield 41, 3) := by decide +kernel
theorem dX2_setSystem_16 : decode cX2_setSystem 16 = .ok (.aload_n 0, 1) := by decide +kernel
theorem dX2_setSystem_17 : decode cX2_setSystem 17 = .ok (.iload_n 2, 1) := by decide +kernel
theorem dX2_setSystem_18 : decode cX2_setSystem 18 = .ok (.putfield 44, 3) := by decide +kernel
theorem dX2_setSystem_21 : decode cX2_setSystem 21 = .ok (.return_, 1) := by decide +kernel
theorem dX2_setArguments_0 : decode cX2_setArguments 0 = .ok (.aload_n 0, 1) := by decide +kernel
theorem dX2_setArguments_1 : decode cX2_setArguments 1 = .ok (.iconst 0, 1) := by decide +kernel
theorem dX2_setArguments_2 : decode cX2_setArguments 2 = .ok (.putfield 31, 3) := by decide +kernel
theorem dX2_setArguments_5 : decode cX2_setArguments 5 = .ok (.iconst 0, 1) := by decide +kernel
theorem dX2_setArguments_6 : decode cX2_setArguments 6 = .ok (.istore_n 3, 1) := by decide +kernel
theorem dX2_setArguments_7 : decode cX2_setArguments 7 = .ok (.iload_n 3, 1) := by decide +kernel
theorem dX2_setArguments_8 : decode cX2_setArguments 8 = .ok (.iload_n 2, 1) := by decide +kernel
theorem dX2_setArguments_9 : decode cX2_setArguments 9 = .ok (.if_icmp .ge 39, 3) := by decide +kernel
theorem dX2_setArguments_12 : decode cX2_setArguments 12 = .ok (.iload_n 3, 1) := by decide +kernel
theorem dX2_setArguments_13 : decode cX2_setArguments 13 = .ok (.aload_n 1, 1) := by decide +kernel
theorem dX2_setArguments_14 : decode cX2_setArguments 14 = .ok (.arraylength, 1) := by decide +kernel
theorem dX2_setArguments_15 : decode cX2_setArguments 15 = .ok (.if_icmp .ge 33, 3) := by decide +kernel
theorem dX2_setArguments_18 : decode cX2_setArguments 18 = .ok (.iload_n 3, 1) := by decide +kernel
theorem dX2_setArguments_19 : decode cX2_setArguments 19 = .ok (.iconst 4, 1) := by decide +kernel
theorem dX2_setArguments_20 : decode cX2_setArguments 20 = .ok (.if_icmp .ge 28, 3) := by decide +kernel
theorem dX2_setArguments_23 : decode cX2_setArguments 23 = .ok (.aload_n 0, 1) := by decide +kernel
theorem dX2_setArguments_24 : decode cX2_setArguments 24 = .ok (.getfield 28, 3) := by decide +kernel
theorem dX2_setArguments_27 : decode cX2_setArguments 27 = .ok (.iload_n 3, 1) := by decide +kernel
theorem dX2_setArguments_28 : decode cX2_setArguments 28 = .ok (.aload_n 1, 1) := by decide +kernel
theorem dX2_setArguments_29 : decode cX2_setArguments 29 = .ok (.iload_n 3, 1) := by decide +kernel
theorem dX2_setArguments_30 : decode cX2_setArguments 30 = .ok (.iaload, 1) := by decide +kernel
theorem dX2_setArguments_31 : decode cX2_setArguments 31 = .ok (.iastore, 1) := by decide +kernel
theorem dX2_setArguments_32 : decode cX2_setArguments 32 = .ok (.aload_n 0, 1) := by decide +kernel
theorem dX2_setArguments_33 : decode cX2_setArguments 33 = .ok (.dup, 1) := by decide +kernel
theorem dX2_setArguments_34 : decode cX2_setArguments 34 = .ok (.getfield 31, 3) := by decide +kernel
theorem dX2_setArguments_37 : decode cX2_setArguments 37 = .ok (.iconst 1, 1) := by decide +kernel
theorem dX2_setArguments_38 : decode cX2_setArguments 38 = .ok (.iadd, 1) := by decide +kernel
theorem dX2_setArguments_39 : decode cX2_setArguments 39 = .ok (.putfield 31, 3) := by decide +kernel
theorem dX2_setArguments_42 : decode cX2_setArguments 42 = .ok (.iinc 3 1, 3) := by decide +kernel
theorem dX2_setArguments_45 : decode cX2_setArguments 45 = .ok (.goto (-38), 3) := by decide +kernel
theorem dX2_setArguments_48 : decode cX2_setArguments 48 = .ok (.return_, 1) := by decide +kernel
theorem dX2_run_0 : decode cX2_run 0 = .ok (.aload_n 0, 1) := by decide +kernel
theorem dX2_run_1 : decode cX2_run 1 = .ok (.getfield 12, 3) := by decide +kernel
theorem dX2_run_4 : decode cX2_run 4 = .ok (.getfield 66, 3) := by decide +kernel
theorem dX2_run_7 : decode cX2_run 7 = .ok (.istore_n 2, 1) := by decide +kernel
theorem dX2_run_8 : decode cX2_run 8 = .ok (.iconst 0, 1) := by decide +kernel
theorem dX2_run_9 : decode cX2_run 9 = .ok (.istore_n 3, 1) := by decide +kernel
theorem dX2_run_10 : decode cX2_run 10 = .ok (.iload_n 3, 1) := by decide +kernel
theorem dX2_run_11 : decode cX2_run 11 = .ok (.iload_n 1, 1) := by decide +kernel
theorem dX2_run_12 : decode cX2_run 12 = .ok (.if_icmp .ge 128, 3) := by decide +kernel
theorem dX2_run_15 : decode cX2_run 15 = .ok (.aload_n 0, 1) := by decide +kernel
theorem dX2_run_16 : decode cX2_run 16 = .ok (.getfield 35, 3) := by decide +kernel
theorem dX2_run_19 : decode cX2_run 19 = .ok (.ifCond .le 121, 3) := by decide +kernel
theorem dX2_run_22 : decode cX2_run 22 = .ok (.aload_n 0, 1) := by decide +kernel
theorem dX2_run_23 : decode cX2_run 23 = .ok (.getfield 47, 3) := by decide +kernel
theorem dX2_run_26 : decode cX2_run 26 = .ok (.ifCond .ne 114, 3) := by decide +kernel
theorem dX2_run_29 : decode cX2_run 29 = .ok (.aload_n 0, 1) := by decide +kernel
theorem dX2_run_30 : decode cX2_run 30 = .ok (.getfield 12, 3) := by decide +kernel
theorem dX2_run_33 : decode cX2_run 33 = .ok (.dup, 1) := by decide +kernel
theorem dX2_run_34 : decode cX2_run 34 = .ok (.getfield 69, 3) := by decide +kernel
theorem dX2_run_37 : decode cX2_run 37 = .ok (.iconst 1, 1) := by decide +kernel
theorem dX2_run_38 : decode cX2_run 38 = .ok (.iadd, 1) := by decide +kernel
theorem dX2_run_39 : decode cX2_run 39 = .ok (.putfield 69, 3) := by decide +kernel
theorem dX2_run_42 : decode cX2_run 42 = .ok (.aload_n 0, 1) := by decide +kernel
theorem dX2_run_43 : decode cX2_run 43 = .ok (.getfield 20, 3) := by decide +kernel
theorem dX2_run_46 : decode cX2_run 46 = .ok (.aload_n 0, 1) := by decide +kernel
theorem dX2_run_47 : decode cX2_run 47 = .ok (.getfield 35, 3) := by decide +kernel
theorem dX2_run_50 : decode cX2_run 50 = .ok (.iconst 1, 1) := by decide +kernel
theorem dX2_run_51 : decode cX2_run 51 = .ok (.isub, 1) := by decide +kernel
theorem dX2_run_52 : decode cX2_run 52 = .ok (.aaload, 1) := by decide +kernel
theorem dX2_run_53 : decode cX2_run 53 = .ok (.astore 4, 2) := by decide +kernel
theorem dX2_run_55 : decode cX2_run 55 = .ok (.aload 4, 2) := by decide +kernel
theorem dX2_run_57 : decode cX2_run 57 = .ok (.getfield 72, 3) := by decide +kernel
theorem dX2_run_60 : decode cX2_run 60 = .ok (.tableswitch 68 0 3 #[32, 41, 50, 59], 32) := by decide +kernel
theorem dX2_run_92 : decode cX2_run 92 = .ok (.aload_n 0, 1) := by decide +kernel
theorem dX2_run_93 : decode cX2_run 93 = .ok (.aload 4, 2) := by decide +kernel
theorem dX2_run_95 : decode cX2_run 95 = .ok (.invokevirtual 75, 3) := by decide +kernel
theorem dX2_run_98 : decode cX2_run 98 = .ok (.goto 36, 3) := by decide +kernel
theorem dX2_run_101 : decode cX2_run 101 = .ok (.aload_n 0, 1) := by decide +kernel
theorem dX2_run_102 : decode cX2_run 102 = .ok (.aload 4, 2) := by decide +kernel
theorem dX2_run_104 : decode cX2_run 104 = .ok (.invokevirtual 79, 3) := by decide +kernel
theorem dX2_run_107 : decode cX2_run 107 = .ok (.goto 27, 3) := by decide +kernel
theorem dX2_run_110 : decode cX2_run 110 = .ok (.aload_n 0, 1) := by decide +kernel
theorem dX2_run_111 : decode cX2_run 111 = .ok (.aload 4, 2) := by decide +kernel
theorem dX2_run_113 : decode cX2_run 113 = .ok (.invokevirtual 82, 3) := by decide +kernel
theorem dX2_run_116 : decode cX2_run 116 = .ok (.goto 18, 3) := by decide +kernel
theorem dX2_run_119 : decode cX2_run 119 = .ok (.aload_n 0, 1) := by decide +kernel
theorem dX2_run_120 : decode cX2_run 120 = .ok (.aload 4, 2) := by decide +kernel
theorem dX2_run_122 : decode cX2_run 122 = .ok (.invokevirtual 85, 3) := by decide +kernel
theorem dX2_run_125 : decode cX2_run 125 = .ok (.goto 9, 3) := by decide +kernel
theorem dX2_run_128 : decode cX2_run 128 = .ok (.aload_n 0, 1) := by decide +kernel
theorem dX2_run_129 : decode cX2_run 129 = .ok (.aload 4, 2) := by decide +kernel
theorem dX2_run_131 : decode cX2_run 131 = .ok (.invokevirtual 88, 3) := by decide +kernel
theorem dX2_run_134 : decode cX2_run 134 = .ok (.iinc 3 1, 3) := by decide +kernel
theorem dX2_run_137 : decode cX2_run 137 = .ok (.goto (-127), 3) := by decide +kernel
theorem dX2_run_140 : decode cX2_run 140 = .ok (.aload_n 0, 1) := by decide +kernel
theorem dX2_run_141 : decode cX2_run 141 = .ok (.getfield 47, 3) := by decide +kernel
theorem dX2_run_144 : decode cX2_run 144 = .ok (.ifCond .eq 8, 3) := by decide +kernel
theorem dX2_run_147 : decode cX2_run 147 = .ok (.aload_n 0, 1) := by decide +kernel
theorem dX2_run_148 : decode cX2_run 148 = .ok (.invokevirtual 91, 3) := by decide +kernel
theorem dX2_run_151 : decode cX2_run 151 = .ok (.ireturn, 1) := by decide +kernel
theorem dX2_run_152 : decode cX2_run 152 = .ok (.aload_n 0, 1) := by decide +kernel
theorem dX2_run_153 : decode cX2_run 153 = .ok (.getfield 35, 3) := by decide +kernel
theorem dX2_run_156 : decode cX2_run 156 = .ok (.ifCond .le 8, 3) := by decide +kernel
theorem dX2_run_159 : decode cX2_run 159 = .ok (.bipush (-5), 2) := by decide +kernel
theorem dX2_run_161 : decode cX2_run 161 = .ok (.goto 12, 3) := by decide +kernel
theorem dX2_run_164 : decode cX2_run 164 = .ok (.aload_n 0, 1) := by decide +kernel
theorem dX2_run_165 : decode cX2_run 165 = .ok (.getfield 12, 3) := by decide +kernel
theorem dX2_run_168 : decode cX2_run 168 = .ok (.getfield 66, 3) := by decide +kernel
theorem dX2_run_171 : decode cX2_run 171 = .ok (.iload_n 2, 1) := by decide +kernel
theorem dX2_run_172 : decode cX2_run 172 = .ok (.isub, 1) := by decide +kernel
theorem dX2_run_173 : decode cX2_run 173 = .ok (.ireturn, 1) := by decide +kernel
theorem dX2_endInFault_0 : decode cX2_endInFault 0 = .ok (.aload_n 0, 1) := by decide +kernel
theorem dX2_endInFault_1 : decode cX2_endInFault 1 = .ok (.getfield 47, 3) := by decide +kernel
theorem dX2_endInFault_4 : decode cX2_endInFault 4 = .ok (.istore_n 1, 1) := by decide +kernel
theorem dX2_endInFault_5 : decode cX2_endInFault 5 = .ok (.aload_n 0, 1) := by decide +kernel
theorem dX2_endInFault_6 : decode cX2_endInFault 6 = .ok (.iconst 0, 1) := by decide +kernel
theorem dX2_endInFault_7 : decode cX2_endInFault 7 = .ok (.putfield 47, 3) := by decide +kernel
theorem dX2_endInFault_10 : decode cX2_endInFault 10 = .ok (.aload_n 0, 1) := by decide +kernel
theorem dX2_endInFault_11 : decode cX2_endInFault 11 = .ok (.iconst 0, 1) := by decide +kernel
theorem dX2_endInFault_12 : decode cX2_endInFault 12 = .ok (.putfield 35, 3) := by decide +kernel
theorem dX2_endInFault_15 : decode cX2_endInFault 15 = .ok (.aload_n 0, 1) := by decide +kernel
theorem dX2_endInFault_16 : decode cX2_endInFault 16 = .ok (.getfield 12, 3) := by decide +kernel
theorem dX2_endInFault_19 : decode cX2_endInFault 19 = .ok (.dup, 1) := by decide +kernel
theorem dX2_endInFault_20 : decode cX2_endInFault 20 = .ok (.getfield 95, 3) := by decide +kernel
theorem dX2_endInFault_23 : decode cX2_endInFault 23 = .ok (.iconst 1, 1) := by decide +kernel
theorem dX2_endInFault_24 : decode cX2_endInFault 24 = .ok (.iadd, 1) := by decide +kernel
theorem dX2_endInFault_25 : decode cX2_endInFault 25 = .ok (.putfield 95, 3) := by decide +kernel
theorem dX2_endInFault_28 : decode cX2_endInFault 28 = .ok (.aload_n 0, 1) := by decide +kernel
theorem dX2_endInFault_29 : decode cX2_endInFault 29 = .ok (.getfield 12, 3) := by decide +kernel
theorem dX2_endInFault_32 : decode cX2_endInFault 32 = .ok (.iload_n 1, 1) := by decide +kernel
theorem dX2_endInFault_33 : decode cX2_endInFault 33 = .ok (.putfield 98, 3) := by decide +kernel
theorem dX2_endInFault_36 : decode cX2_endInFault 36 = .ok (.bipush (-10), 2) := by decide +kernel
theorem dX2_endInFault_38 : decode cX2_endInFault 38 = .ok (.iload_n 1, 1) := by decide +kernel
theorem dX2_endInFault_39 : decode cX2_endInFault 39 = .ok (.isub, 1) := by decide +kernel
theorem dX2_endInFault_40 : decode cX2_endInFault 40 = .ok (.ireturn, 1) := by decide +kernel
theorem dX2_fail_0 : decode cX2_fail 0 = .ok (.aload_n 0, 1) := by decide +kernel
theorem dX2_fail_1 : decode cX2_fail 1 = .ok (.getfield 47, 3) := by decide +kernel
theorem dX2_fail_4 : decode cX2_fail 4 = .ok (.ifCond .ne 8, 3) := by decide +kernel
theorem dX2_fail_7 : decode cX2_fail 7 = .ok (.aload_n 0, 1) := by decide +kernel
theorem dX2_fail_8 : decode cX2_fail 8 = .ok (.iload_n 1, 1) := by decide +kernel
theorem dX2_fail_9 : decode cX2_fail 9 = .ok (.putfield 47, 3) := by decide +kernel
theorem dX2_fail_12 : decode cX2_fail 12 = .ok (.return_, 1) := by decide +kernel
theorem dX2_readByte_0 : decode cX2_readByte 0 = .ok (.aload_n 0, 1) := by decide +kernel
theorem dX2_readByte_1 : decode cX2_readByte 1 = .ok (.getfield 53, 3) := by decide +kernel
theorem dX2_readByte_4 : decode cX2_readByte 4 = .ok (.iload_n 1, 1) := by decide +kernel
theorem dX2_readByte_5 : decode cX2_readByte 5 = .ok (.invokevirtual 101, 3) := by decide +kernel
theorem dX2_readByte_8 : decode cX2_readByte 8 = .ok (.ifCond .ne 10, 3) := by decide +kernel
theorem dX2_readByte_11 : decode cX2_readByte 11 = .ok (.aload_n 0, 1) := by decide +kernel
theorem dX2_readByte_12 : decode cX2_readByte 12 = .ok (.iconst 1, 1) := by decide +kernel
theorem dX2_readByte_13 : decode cX2_readByte 13 = .ok (.invokevirtual 106, 3) := by decide +kernel
theorem dX2_readByte_16 : decode cX2_readByte 16 = .ok (.iconst 0, 1) := by decide +kernel
theorem dX2_readByte_17 : decode cX2_readByte 17 = .ok (.ireturn, 1) := by decide +kernel
theorem dX2_readByte_18 : decode cX2_readByte 18 = .ok (.aload_n 0, 1) := by decide +kernel
theorem dX2_readByte_19 : decode cX2_readByte 19 = .ok (.getfield 53, 3) := by decide +kernel
theorem dX2_readByte_22 : decode cX2_readByte 22 = .ok (.iload_n 1, 1) := by decide +kernel
theorem dX2_readByte_23 : decode cX2_readByte 23 = .ok (.invokevirtual 110, 3) := by decide +kernel
theorem dX2_readByte_26 : decode cX2_readByte 26 = .ok (.ireturn, 1) := by decide +kernel
theorem dX2_readFour_0 : decode cX2_readFour 0 = .ok (.aload_n 0, 1) := by decide +kernel
theorem dX2_readFour_1 : decode cX2_readFour 1 = .ok (.getfield 53, 3) := by decide +kernel
theorem dX2_readFour_4 : decode cX2_readFour 4 = .ok (.iload_n 1, 1) := by decide +kernel
theorem dX2_readFour_5 : decode cX2_readFour 5 = .ok (.invokevirtual 114, 3) := by decide +kernel
theorem dX2_readFour_8 : decode cX2_readFour 8 = .ok (.ifCond .ne 10, 3) := by decide +kernel
theorem dX2_readFour_11 : decode cX2_readFour 11 = .ok (.aload_n 0, 1) := by decide +kernel
theorem dX2_readFour_12 : decode cX2_readFour 12 = .ok (.iconst 1, 1) := by decide +kernel
theorem dX2_readFour_13 : decode cX2_readFour 13 = .ok (.invokevirtual 106, 3) := by decide +kernel
theorem dX2_readFour_16 : decode cX2_readFour 16 = .ok (.iconst 0, 1) := by decide +kernel
theorem dX2_readFour_17 : decode cX2_readFour 17 = .ok (.ireturn, 1) := by decide +kernel
theorem dX2_readFour_18 : decode cX2_readFour 18 = .ok (.aload_n 0, 1) := by decide +kernel
theorem dX2_readFour_19 : decode cX2_readFour 19 = .ok (.getfield 53, 3) := by decide +kernel
theorem dX2_readFour_22 : decode cX2_readFour 22 = .ok (.iload_n 1, 1) := by decide +kernel
theorem dX2_readFour_23 : decode cX2_readFour 23 = .ok (.invokevirtual 117, 3) := by decide +kernel
theorem dX2_readFour_26 : decode cX2_readFour 26 = .ok (.ireturn, 1) := by decide +kernel
theorem dX2_stepPlain_0 : decode cX2_stepPlain 0 = .ok (.aload_n 0, 1) := by decide +kernel
theorem dX2_stepPlain_1 : decode cX2_stepPlain 1 = .ok (.aload_n 1, 1) := by decide +kernel
theorem dX2_stepPlain_2 : decode cX2_stepPlain 2 = .ok (.getfield 120, 3) := by decide +kernel
theorem dX2_stepPlain_5 : decode cX2_stepPlain 5 = .ok (.invokevirtual 123, 3) := by decide +kernel
theorem dX2_stepPlain_8 : decode cX2_stepPlain 8 = .ok (.istore_n 2, 1) := by decide +kernel
theorem dX2_stepPlain_9 : decode cX2_stepPlain 9 = .ok (.aload_n 0, 1) := by decide +kernel
theorem dX2_stepPlain_10 : decode cX2_stepPlain 10 = .ok (.getfield 47, 3) := by decide +kernel
theorem dX2_stepPlain_13 : decode cX2_stepPlain 13 = .ok (.ifCond .eq 4, 3) := by decide +kernel
theorem dX2_stepPlain_16 : decode cX2_stepPlain 16 = .ok (.return_, 1) := by decide +kernel
theorem dX2_stepPlain_17 : decode cX2_stepPlain 17 = .ok (.iload_n 2, 1) := by decide +kernel
theorem dX2_stepPlain_18 : decode cX2_stepPlain 18 = .ok (.ifCond .ne 14, 3) := by decide +kernel
theorem dX2_stepPlain_21 : decode cX2_stepPlain 21 = .ok (.aload_n 0, 1) := by decide +kernel
theorem dX2_stepPlain_22 : decode cX2_stepPlain 22 = .ok (.dup, 1) := by decide +kernel
theorem dX2_stepPlain_23 : decode cX2_stepPlain 23 = .ok (.getfield 35, 3) := by decide +kernel
theorem dX2_stepPlain_26 : decode cX2_stepPlain 26 = .ok (.iconst 1, 1) := by decide +kernel
theorem dX2_stepPlain_27 : decode cX2_stepPlain 27 = .ok (.isub, 1) := by decide +kernel
theorem dX2_stepPlain_28 : decode cX2_stepPlain 28 = .ok (.putfield 35, 3) := by decide +kernel
theorem dX2_stepPlain_31 : decode cX2_stepPlain 31 = .ok (.return_, 1) := by decide +kernel
theorem dX2_stepPlain_32 : decode cX2_stepPlain 32 = .ok (.aload_n 1, 1) := by decide +kernel
theorem dX2_stepPlain_33 : decode cX2_stepPlain 33 = .ok (.dup, 1) := by decide +kernel
theorem dX2_stepPlain_34 : decode cX2_stepPlain 34 = .ok (.getfield 120, 3) := by decide +kernel
theorem dX2_stepPlain_37 : decode cX2_stepPlain 37 = .ok (.iconst 1, 1) := by decide +kernel
theorem dX2_stepPlain_38 : decode cX2_stepPlain 38 = .ok (.iadd, 1) := by decide +kernel
theorem dX2_stepPlain_39 : decode cX2_stepPlain 39 = .ok (.putfield 120, 3) := by decide +kernel
theorem dX2_stepPlain_42 : decode cX2_stepPlain 42 = .ok (.aload_n 0, 1) := by decide +kernel
theorem dX2_stepPlain_43 : decode cX2_stepPlain 43 = .ok (.iload_n 2, 1) := by decide +kernel
theorem dX2_stepPlain_44 : decode cX2_stepPlain 44 = .ok (.invokevirtual 126, 3) := by decide +kernel
theorem dX2_stepPlain_47 : decode cX2_stepPlain 47 = .ok (.return_, 1) := by decide +kernel
theorem dX2_stepWide_0 : decode cX2_stepWide 0 = .ok (.aload_n 0, 1) := by decide +kernel
theorem dX2_stepWide_1 : decode cX2_stepWide 1 = .ok (.aload_n 1, 1) := by decide +kernel
theorem dX2_stepWide_2 : decode cX2_stepWide 2 = .ok (.getfield 120, 3) := by decide +kernel
theorem dX2_stepWide_5 : decode cX2_stepWide 5 = .ok (.invokevirtual 129, 3) := by decide +kernel
theorem dX2_stepWide_8 : decode cX2_stepWide 8 = .ok (.istore_n 2, 1) := by decide +kernel
theorem dX2_stepWide_9 : decode cX2_stepWide 9 = .ok (.aload_n 0, 1) := by decide +kernel
theorem dX2_stepWide_10 : decode cX2_stepWide 10 = .ok (.getfield 47, 3) := by decide +kernel
theorem dX2_stepWide_13 : decode cX2_stepWide 13 = .ok (.ifCond .eq 4, 3) := by decide +kernel
theorem dX2_stepWide_16 : decode cX2_stepWide 16 = .ok (.return_, 1) := by decide +kernel
theorem dX2_stepWide_17 : decode cX2_stepWide 17 = .ok (.iload_n 2, 1) := by decide +kernel
theorem dX2_stepWide_18 : decode cX2_stepWide 18 = .ok (.ifCond .ne 14, 3) := by decide +kernel
theorem dX2_stepWide_21 : decode cX2_stepWide 21 = .ok (.aload_n 0, 1) := by decide +kernel
theorem dX2_stepWide_22 : decode cX2_stepWide 22 = .ok (.dup, 1) := by decide +kernel
theorem dX2_stepWide_23 : decode cX2_stepWide 23 = .ok (.getfield 35, 3) := by decide +kernel
theorem dX2_stepWide_26 : decode cX2_stepWide 26 = .ok (.iconst 1, 1) := by decide +kernel
theorem dX2_stepWide_27 : decode cX2_stepWide 27 = .ok (.isub, 1) := by decide +kernel
theorem dX2_stepWide_28 : decode cX2_stepWide 28 = .ok (.putfield 35, 3) := by decide +kernel
theorem dX2_stepWide_31 : decode cX2_stepWide 31 = .ok (.return_, 1) := by decide +kernel
theorem dX2_stepWide_32 : decode cX2_stepWide 32 = .ok (.aload_n 1, 1) := by decide +kernel
theorem dX2_stepWide_33 : decode cX2_stepWide 33 = .ok (.dup, 1) := by decide +kernel
theorem dX2_stepWide_34 : decode cX2_stepWide 34 = .ok (.getfield 120, 3) := by decide +kernel
theorem dX2_stepWide_37 : decode cX2_stepWide 37 = .ok (.iconst 4, 1) := by decide +kernel
theorem dX2_stepWide_38 : decode cX2_stepWide 38 = .ok (.iadd, 1) := by decide +kernel
theorem dX2_stepWide_39 : decode cX2_stepWide 39 = .ok (.putfield 120, 3) := by decide +kernel
theorem dX2_stepWide_42 : decode cX2_stepWide 42 = .ok (.aload_n 0, 1) := by decide +kernel
theorem dX2_stepWide_43 : decode cX2_stepWide 43 = .ok (.iload_n 2, 1) := by decide +kernel
theorem dX2_stepWide_44 : decode cX2_stepWide 44 = .ok (.invokevirtual 126, 3) := by decide +kernel
theorem dX2_stepWide_47 : decode cX2_stepWide 47 = .ok (.return_, 1) := by decide +kernel
theorem dX2_stepNumber_0 : decode cX2_stepNumber 0 = .ok (.aload_n 1, 1) := by decide +kernel
theorem dX2_stepNumber_1 : decode cX2_stepNumber 1 = .ok (.getfield 120, 3) := by decide +kernel
theorem dX2_stepNumber_4 : decode cX2_stepNumber 4 = .ok (.i2l, 1) := by decide +kernel
theorem dX2_stepNumber_5 : decode cX2_stepNumber 5 = .ok (.invokestatic 132, 3) := by decide +kernel
theorem dX2_stepNumber_8 : decode cX2_stepNumber 8 = .ok (.lstore_n 2, 1) := by decide +kernel
theorem dX2_stepNumber_9 : decode cX2_stepNumber 9 = .ok (.aload_n 1, 1) := by decide +kernel
theorem dX2_stepNumber_10 : decode cX2_stepNumber 10 = .ok (.getfield 120, 3) := by decide +kernel
theorem dX2_stepNumber_13 : decode cX2_stepNumber 13 = .ok (.ifCond .ge 7, 3) := by decide +kernel
theorem dX2_stepNumber_16 : decode cX2_stepNumber 16 = .ok (.iconst 1, 1) := by decide +kernel
theorem dX2_stepNumber_17 : decode cX2_stepNumber 17 = .ok (.goto 4, 3) := by decide +kernel
theorem dX2_stepNumber_20 : decode cX2_stepNumber 20 = .ok (.iconst 0, 1) := by decide +kernel
theorem dX2_stepNumber_21 : decode cX2_stepNumber 21 = .ok (.istore 4, 2) := by decide +kernel
theorem dX2_stepNumber_23 : decode cX2_stepNumber 23 = .ok (.iload 4, 2) := by decide +kernel
theorem dX2_stepNumber_25 : decode cX2_stepNumber 25 = .ok (.lload_n 2, 1) := by decide +kernel
theorem dX2_stepNumber_26 : decode cX2_stepNumber 26 = .ok (.invokestatic 138, 3) := by decide +kernel
theorem dX2_stepNumber_29 : decode cX2_stepNumber 29 = .ok (.iadd, 1) := by decide +kernel
theorem dX2_stepNumber_30 : decode cX2_stepNumber 30 = .ok (.iconst 1, 1) := by decide +kernel
theorem dX2_stepNumber_31 : decode cX2_stepNumber 31 = .ok (.isub, 1) := by decide +kernel
theorem dX2_stepNumber_32 : decode cX2_stepNumber 32 = .ok (.aload_n 1, 1) := by decide +kernel
theorem dX2_stepNumber_33 : decode cX2_stepNumber 33 = .ok (.getfield 142, 3) := by decide +kernel
theorem dX2_stepNumber_36 : decode cX2_stepNumber 36 = .ok (.isub, 1) := by decide +kernel
theorem dX2_stepNumber_37 : decode cX2_stepNumber 37 = .ok (.istore 5, 2) := by decide +kernel
theorem dX2_stepNumber_39 : decode cX2_stepNumber 39 = .ok (.iload 5, 2) := by decide +kernel
theorem dX2_stepNumber_41 : decode cX2_stepNumber 41 = .ok (.ifCond .ge 14, 3) := by decide +kernel
theorem dX2_stepNumber_44 : decode cX2_stepNumber 44 = .ok (.aload_n 0, 1) := by decide +kernel
theorem dX2_stepNumber_45 : decode cX2_stepNumber 45 = .ok (.dup, 1) := by decide +kernel
theorem dX2_stepNumber_46 : decode cX2_stepNumber 46 = .ok (.getfield 35, 3) := by decide +kernel
theorem dX2_stepNumber_49 : decode cX2_stepNumber 49 = .ok (.iconst 1, 1) := by decide +kernel
theorem dX2_stepNumber_50 : decode cX2_stepNumber 50 = .ok (.isub, 1) := by decide +kernel
theorem dX2_stepNumber_51 : decode cX2_stepNumber 51 = .ok (.putfield 35, 3) := by decide +kernel
theorem dX2_stepNumber_54 : decode cX2_stepNumber 54 = .ok (.return_, 1) := by decide +kernel
theorem dX2_stepNumber_55 : decode cX2_stepNumber 55 = .ok (.iload 4, 2) := by decide +kernel
theorem dX2_stepNumber_57 : decode cX2_stepNumber 57 = .ok (.iconst 1, 1) := by decide +kernel
theorem dX2_stepNumber_58 : decode cX2_stepNumber 58 = .ok (.if_icmp .ne 14, 3) := by decide +kernel
theorem dX2_stepNumber_61 : decode cX2_stepNumber 61 = .ok (.aload_n 1, 1) := by decide +kernel
theorem dX2_stepNumber_62 : decode cX2_stepNumber 62 = .ok (.getfield 142, 3) := by decide +kernel
theorem dX2_stepNumber_65 : decode cX2_stepNumber 65 = .ok (.ifCond .ne 7, 3) := by decide +kernel
theorem dX2_stepNumber_68 : decode cX2_stepNumber 68 = .ok (.iconst 1, 1) := by decide +kernel
theorem dX2_stepNumber_69 : decode cX2_stepNumber 69 = .ok (.goto 4, 3) := by decide +kernel
theorem dX2_stepNumber_72 : decode cX2_stepNumber 72 = .ok (.iconst 0, 1) := by decide +kernel
theorem dX2_stepNumber_73 : decode cX2_stepNumber 73 = .ok (.istore 6, 2) := by decide +kernel
theorem dX2_stepNumber_75 : decode cX2_stepNumber 75 = .ok (.aload_n 1, 1) := by decide +kernel
theorem dX2_stepNumber_76 : decode cX2_stepNumber 76 = .ok (.dup, 1) := by decide +kernel
theorem dX2_stepNumber_77 : decode cX2_stepNumber 77 = .ok (.getfield 142, 3) := by decide +kernel
theorem dX2_stepNumber_80 : decode cX2_stepNumber 80 = .ok (.iconst 1, 1) := by decide +kernel
theorem dX2_stepNumber_81 : decode cX2_stepNumber 81 = .ok (.iadd, 1) := by decide +kernel
theorem dX2_stepNumber_82 : decode cX2_stepNumber 82 = .ok (.putfield 142, 3) := by decide +kernel
theorem dX2_stepNumber_85 : decode cX2_stepNumber 85 = .ok (.iload 6, 2) := by decide +kernel
theorem dX2_stepNumber_87 : decode cX2_stepNumber 87 = .ok (.ifCond .eq 10, 3) := by decide +kernel
theorem dX2_stepNumber_90 : decode cX2_stepNumber 90 = .ok (.aload_n 0, 1) := by decide +kernel
theorem dX2_stepNumber_91 : decode cX2_stepNumber 91 = .ok (.bipush 45, 2) := by decide +kernel
theorem dX2_stepNumber_93 : decode cX2_stepNumber 93 = .ok (.invokevirtual 126, 3) := by decide +kernel
theorem dX2_stepNumber_96 : decode cX2_stepNumber 96 = .ok (.return_, 1) := by decide +kernel
theorem dX2_stepNumber_97 : decode cX2_stepNumber 97 = .ok (.iconst 0, 1) := by decide +kernel
theorem dX2_stepNumber_98 : decode cX2_stepNumber 98 = .ok (.istore 7, 2) := by decide +kernel
theorem dX2_stepNumber_100 : decode cX2_stepNumber 100 = .ok (.iload 7, 2) := by decide +kernel
theorem dX2_stepNumber_102 : decode cX2_stepNumber 102 = .ok (.iload 5, 2) := by decide +kernel
theorem dX2_stepNumber_104 : decode cX2_stepNumber 104 = .ok (.if_icmp .ge 15, 3) := by decide +kernel
theorem dX2_stepNumber_107 : decode cX2_stepNumber 107 = .ok (.lload_n 2, 1) := by decide +kernel
theorem dX2_stepNumber_108 : decode cX2_stepNumber 108 = .ok (.ldc2_w 145, 3) := by decide +kernel
theorem dX2_stepNumber_111 : decode cX2_stepNumber 111 = .ok (.ldiv, 1) := by decide +kernel
theorem dX2_stepNumber_112 : decode cX2_stepNumber 112 = .ok (.lstore_n 2, 1) := by decide +kernel
theorem dX2_stepNumber_113 : decode cX2_stepNumber 113 = .ok (.iinc 7 1, 3) := by decide +kernel
theorem dX2_stepNumber_116 : decode cX2_stepNumber 116 = .ok (.goto (-16), 3) := by decide +kernel
theorem dX2_stepNumber_119 : decode cX2_stepNumber 119 = .ok (.aload_n 0, 1) := by decide +kernel
theorem dX2_stepNumber_120 : decode cX2_stepNumber 120 = .ok (.bipush 48, 2) := by decide +kernel
theorem dX2_stepNumber_122 : decode cX2_stepNumber 122 = .ok (.lload_n 2, 1) := by decide +kernel
theorem dX2_stepNumber_123 : decode cX2_stepNumber 123 = .ok (.ldc2_w 145, 3) := by decide +kernel
theorem dX2_stepNumber_126 : decode cX2_stepNumber 126 = .ok (.lrem, 1) := by decide +kernel
theorem dX2_stepNumber_127 : decode cX2_stepNumber 127 = .ok (.l2i, 1) := by decide +kernel
theorem dX2_stepNumber_128 : decode cX2_stepNumber 128 = .ok (.iadd, 1) := by decide +kernel
theorem dX2_stepNumber_129 : decode cX2_stepNumber 129 = .ok (.invokevirtual 126, 3) := by decide +kernel
theorem dX2_stepNumber_132 : decode cX2_stepNumber 132 = .ok (.return_, 1) := by decide +kernel
theorem dX2_digitCount_0 : decode cX2_digitCount 0 = .ok (.iconst 1, 1) := by decide +kernel
theorem dX2_digitCount_1 : decode cX2_digitCount 1 = .ok (.istore_n 2, 1) := by decide +kernel
theorem dX2_digitCount_2 : decode cX2_digitCount 2 = .ok (.lload_n 0, 1) := by decide +kernel
theorem dX2_digitCount_3 : decode cX2_digitCount 3 = .ok (.ldc2_w 145, 3) := by decide +kernel
theorem dX2_digitCount_6 : decode cX2_digitCount 6 = .ok (.ldiv, 1) := by decide +kernel
theorem dX2_digitCount_7 : decode cX2_digitCount 7 = .ok (.lstore_n 3, 1) := by decide +kernel
theorem dX2_digitCount_8 : decode cX2_digitCount 8 = .ok (.lload_n 3, 1) := by decide +kernel
theorem dX2_digitCount_9 : decode cX2_digitCount 9 = .ok (.lconst 0, 1) := by decide +kernel
theorem dX2_digitCount_10 : decode cX2_digitCount 10 = .ok (.lcmp, 1) := by decide +kernel
theorem dX2_digitCount_11 : decode cX2_digitCount 11 = .ok (.ifCond .le 21, 3) := by decide +kernel
theorem dX2_digitCount_14 : decode cX2_digitCount 14 = .ok (.iload_n 2, 1) := by decide +kernel
theorem dX2_digitCount_15 : decode cX2_digitCount 15 = .ok (.bipush 20, 2) := by decide +kernel
theorem dX2_digitCount_17 : decode cX2_digitCount 17 = .ok (.if_icmp .ge 15, 3) := by decide +kernel
theorem dX2_digitCount_20 : decode cX2_digitCount 20 = .ok (.lload_n 3, 1) := by decide +kernel
theorem dX2_digitCount_21 : decode cX2_digitCount 21 = .ok (.ldc2_w 145, 3) := by decide +kernel
theorem dX2_digitCount_24 : decode cX2_digitCount 24 = .ok (.ldiv, 1) := by decide +kernel
theorem dX2_digitCount_25 : decode cX2_digitCount 25 = .ok (.lstore_n 3, 1) := by decide +kernel
theorem dX2_digitCount_26 : decode cX2_digitCount 26 = .ok (.iinc 2 1, 3) := by decide +kernel
theorem dX2_digitCount_29 : decode cX2_digitCount 29 = .ok (.goto (-21), 3) := by decide +kernel
theorem dX2_digitCount_32 : decode cX2_digitCount 32 = .ok (.iload_n 2, 1) := by decide +kernel
theorem dX2_digitCount_33 : decode cX2_digitCount 33 = .ok (.ireturn, 1) := by decide +kernel
theorem dX2_stepPacked_0 : decode cX2_stepPacked 0 = .ok (.aload_n 0, 1) := by decide +kernel
theorem dX2_stepPacked_1 : decode cX2_stepPacked 1 = .ok (.getfield 57, 3) := by decide +kernel
theorem dX2_stepPacked_4 : decode cX2_stepPacked 4 = .ok (.getfield 147, 3) := by decide +kernel
theorem dX2_stepPacked_7 : decode cX2_stepPacked 7 = .ok (.ifCond .ne 9, 3) := by decide +kernel
theorem dX2_stepPacked_10 : decode cX2_stepPacked 10 = .ok (.aload_n 0, 1) := by decide +kernel
theorem dX2_stepPacked_11 : decode cX2_stepPacked 11 = .ok (.iconst 2, 1) := by decide +kernel
theorem dX2_stepPacked_12 : decode cX2_stepPacked 12 = .ok (.invokevirtual 106, 3) := by decide +kernel
theorem dX2_stepPacked_15 : decode cX2_stepPacked 15 = .ok (.return_, 1) := by decide +kernel
theorem dX2_stepPacked_16 : decode cX2_stepPacked 16 = .ok (.aload_n 1, 1) := by decide +kernel
theorem dX2_stepPacked_17 : decode cX2_stepPacked 17 = .ok (.getfield 152, 3) := by decide +kernel
theorem dX2_stepPacked_20 : decode cX2_stepPacked 20 = .ok (.ifCond .eq 20, 3) := by decide +kernel
theorem dX2_stepPacked_23 : decode cX2_stepPacked 23 = .ok (.aload_n 0, 1) := by decide +kernel
theorem dX2_stepPacked_24 : decode cX2_stepPacked 24 = .ok (.aload_n 0, 1) := by decide +kernel
theorem dX2_stepPacked_25 : decode cX2_stepPacked 25 = .ok (.getfield 57, 3) := by decide +kernel
theorem dX2_stepPacked_28 : decode cX2_stepPacked 28 = .ok (.getfield 147, 3) := by decide +kernel
theorem dX2_stepPacked_31 : decode cX2_stepPacked 31 = .ok (.bipush 8, 2) := by decide +kernel
theorem dX2_stepPacked_33 : decode cX2_stepPacked 33 = .ok (.iadd, 1) := by decide +kernel
theorem dX2_stepPacked_34 : decode cX2_stepPacked 34 = .ok (.invokevirtual 129, 3) := by decide +kernel
theorem dX2_stepPacked_37 : decode cX2_stepPacked 37 = .ok (.goto 7, 3) := by decide +kernel
theorem dX2_stepPacked_40 : decode cX2_stepPacked 40 = .ok (.aload_n 1, 1) := by decide +kernel
theorem dX2_stepPacked_41 : decode cX2_stepPacked 41 = .ok (.getfield 158, 3) := by decide +kernel
theorem dX2_stepPacked_44 : decode cX2_stepPacked 44 = .ok (.istore_n 2, 1) := by decide +kernel
theorem dX2_stepPacked_45 : decode cX2_stepPacked 45 = .ok (.aload_n 0, 1) := by decide +kernel
theorem dX2_stepPacked_46 : decode cX2_stepPacked 46 = .ok (.getfield 47, 3) := by decide +kernel
theorem dX2_stepPacked_49 : decode cX2_stepPacked 49 = .ok (.ifCond .eq 4, 3) := by decide +kernel
theorem dX2_stepPacked_52 : decode cX2_stepPacked 52 = .ok (.return_, 1) := by decide +kernel
theorem dX2_stepPacked_53 : decode cX2_stepPacked 53 = .ok (.aload_n 0, 1) := by decide +kernel
theorem dX2_stepPacked_54 : decode cX2_stepPacked 54 = .ok (.iload_n 2, 1) := by decide +kernel
theorem dX2_stepPacked_55 : decode cX2_stepPacked 55 = .ok (.invokevirtual 123, 3) := by decide +kernel
theorem dX2_stepPacked_58 : decode cX2_stepPacked 58 = .ok (.istore_n 3, 1) := by decide +kernel
theorem dX2_stepPacked_59 : decode cX2_stepPacked 59 = .ok (.aload_n 0, 1) := by decide +kernel
theorem dX2_stepPacked_60 : decode cX2_stepPacked 60 = .ok (.getfield 47, 3) := by decide +kernel
theorem dX2_stepPacked_63 : decode cX2_stepPacked 63 = .ok (.ifCond .eq 4, 3) := by decide +kernel
theorem dX2_stepPacked_66 : decode cX2_stepPacked 66 = .ok (.return_, 1) := by decide +kernel
theorem dX2_stepPacked_67 : decode cX2_stepPacked 67 = .ok (.iload_n 3, 1) := by decide +kernel
theorem dX2_stepPacked_68 : decode cX2_stepPacked 68 = .ok (.ifCond .ne 12, 3) := by decide +kernel
theorem dX2_stepPacked_71 : decode cX2_stepPacked 71 = .ok (.aload_n 0, 1) := by decide +kernel
theorem dX2_stepPacked_72 : decode cX2_stepPacked 72 = .ok (.aload_n 1, 1) := by decide +kernel
theorem dX2_stepPacked_73 : decode cX2_stepPacked 73 = .ok (.iload_n 2, 1) := by decide +kernel
theorem dX2_stepPacked_74 : decode cX2_stepPacked 74 = .ok (.invokevirtual 161, 3) := by decide +kernel
theorem dX2_stepPacked_77 : decode cX2_stepPacked 77 = .ok (.goto 32, 3) := by decide +kernel
theorem dX2_stepPacked_80 : decode cX2_stepPacked 80 = .ok (.iload_n 3, 1) := by decide +kernel
theorem dX2_stepPacked_81 : decode cX2_stepPacked 81 = .ok (.iconst 1, 1) := by decide +kernel
theorem dX2_stepPacked_82 : decode cX2_stepPacked 82 = .ok (.if_icmp .ne 16, 3) := by decide +kernel
theorem dX2_stepPacked_85 : decode cX2_stepPacked 85 = .ok (.aload_n 0, 1) := by decide +kernel
theorem dX2_stepPacked_86 : decode cX2_stepPacked 86 = .ok (.dup, 1) := by decide +kernel
theorem dX2_stepPacked_87 : decode cX2_stepPacked 87 = .ok (.getfield 35, 3) := by decide +kernel
theorem dX2_stepPacked_90 : decode cX2_stepPacked 90 = .ok (.iconst 1, 1) := by decide +kernel
theorem dX2_stepPacked_91 : decode cX2_stepPacked 91 = .ok (.isub, 1) := by decide +kernel
theorem dX2_stepPacked_92 : decode cX2_stepPacked 92 = .ok (.putfield 35, 3) := by decide +kernel
theorem dX2_stepPacked_95 : decode cX2_stepPacked 95 = .ok (.goto 14, 3) := by decide +kernel
theorem dX2_stepPacked_98 : decode cX2_stepPacked 98 = .ok (.aload_n 1, 1) := by decide +kernel
theorem dX2_stepPacked_99 : decode cX2_stepPacked 99 = .ok (.iconst 1, 1) := by decide +kernel
theorem dX2_stepPacked_100 : decode cX2_stepPacked 100 = .ok (.putfield 152, 3) := by decide +kernel
theorem dX2_stepPacked_103 : decode cX2_stepPacked 103 = .ok (.aload_n 0, 1) := by decide +kernel
theorem dX2_stepPacked_104 : decode cX2_stepPacked 104 = .ok (.iload_n 2, 1) := by decide +kernel
theorem dX2_stepPacked_105 : decode cX2_stepPacked 105 = .ok (.iload_n 3, 1) := by decide +kernel
theorem dX2_stepPacked_106 : decode cX2_stepPacked 106 = .ok (.invokevirtual 165, 3) := by decide +kernel
theorem dX2_stepPacked_109 : decode cX2_stepPacked 109 = .ok (.return_, 1) := by decide +kernel
theorem dX2_followBranch_0 : decode cX2_followBranch 0 = .ok (.aload_n 0, 1) := by decide +kernel
theorem dX2_followBranch_1 : decode cX2_followBranch 1 = .ok (.aload_n 1, 1) := by decide +kernel
theorem dX2_followBranch_2 : decode cX2_followBranch 2 = .ok (.getfield 120, 3) := by decide +kernel
theorem dX2_followBranch_5 : decode cX2_followBranch 5 = .ok (.invokevirtual 123, 3) := by decide +kernel
theorem dX2_followBranch_8 : decode cX2_followBranch 8 = .ok (.aload_n 1, 1) := by decide +kernel
theorem dX2_followBranch_9 : decode cX2_followBranch 9 = .ok (.getfield 142, 3) := by decide +kernel
theorem dX2_followBranch_12 : decode cX2_followBranch 12 = .ok (.ishr, 1) := by decide +kernel
theorem dX2_followBranch_13 : decode cX2_followBranch 13 = .ok (.iconst 1, 1) := by decide +kernel
theorem dX2_followBranch_14 : decode cX2_followBranch 14 = .ok (.iand, 1) := by decide +kernel
theorem dX2_followBranch_15 : decode cX2_followBranch 15 = .ok (.istore_n 3, 1) := by decide +kernel
theorem dX2_followBranch_16 : decode cX2_followBranch 16 = .ok (.aload_n 0, 1) := by decide +kernel
theorem dX2_followBranch_17 : decode cX2_followBranch 17 = .ok (.iload_n 2, 1) := by decide +kernel
theorem dX2_followBranch_18 : decode cX2_followBranch 18 = .ok (.iconst 1, 1) := by decide +kernel
theorem dX2_followBranch_19 : decode cX2_followBranch 19 = .ok (.iadd, 1) := by decide +kernel
theorem dX2_followBranch_20 : decode cX2_followBranch 20 = .ok (.iconst 4, 1) := by decide +kernel
theorem dX2_followBranch_21 : decode cX2_followBranch 21 = .ok (.iload_n 3, 1) := by decide +kernel
theorem dX2_followBranch_22 : decode cX2_followBranch 22 = .ok (.imul, 1) := by decide +kernel
theorem dX2_followBranch_23 : decode cX2_followBranch 23 = .ok (.iadd, 1) := by decide +kernel
theorem dX2_followBranch_24 : decode cX2_followBranch 24 = .ok (.invokevirtual 129, 3) := by decide +kernel
theorem dX2_followBranch_27 : decode cX2_followBranch 27 = .ok (.istore 4, 2) := by decide +kernel
theorem dX2_followBranch_29 : decode cX2_followBranch 29 = .ok (.aload_n 0, 1) := by decide +kernel
theorem dX2_followBranch_30 : decode cX2_followBranch 30 = .ok (.getfield 47, 3) := by decide +kernel
theorem dX2_followBranch_33 : decode cX2_followBranch 33 = .ok (.ifCond .eq 4, 3) := by decide +kernel
theorem dX2_followBranch_36 : decode cX2_followBranch 36 = .ok (.return_, 1) := by decide +kernel
theorem dX2_followBranch_37 : decode cX2_followBranch 37 = .ok (.aload_n 1, 1) := by decide +kernel
theorem dX2_followBranch_38 : decode cX2_followBranch 38 = .ok (.iload 4, 2) := by decide +kernel
theorem dX2_followBranch_40 : decode cX2_followBranch 40 = .ok (.putfield 158, 3) := by decide +kernel
theorem dX2_followBranch_43 : decode cX2_followBranch 43 = .ok (.aload_n 1, 1) := by decide +kernel
theorem dX2_followBranch_44 : decode cX2_followBranch 44 = .ok (.iconst 0, 1) := by decide +kernel
theorem dX2_followBranch_45 : decode cX2_followBranch 45 = .ok (.putfield 152, 3) := by decide +kernel
theorem dX2_followBranch_48 : decode cX2_followBranch 48 = .ok (.aload_n 1, 1) := by decide +kernel
theorem dX2_followBranch_49 : decode cX2_followBranch 49 = .ok (.dup, 1) := by decide +kernel
theorem dX2_followBranch_50 : decode cX2_followBranch 50 = .ok (.getfield 142, 3) := by decide +kernel
theorem dX2_followBranch_53 : decode cX2_followBranch 53 = .ok (.iconst 1, 1) := by decide +kernel
theorem dX2_followBranch_54 : decode cX2_followBranch 54 = .ok (.iadd, 1) := by decide +kernel
theorem dX2_followBranch_55 : decode cX2_followBranch 55 = .ok (.putfield 142, 3) := by decide +kernel
theorem dX2_followBranch_58 : decode cX2_followBranch 58 = .ok (.aload_n 1, 1) := by decide +kernel
theorem dX2_followBranch_59 : decode cX2_followBranch 59 = .ok (.getfield 142, 3) := by decide +kernel
theorem dX2_followBranch_62 : decode cX2_followBranch 62 = .ok (.bipush 8, 2) := by decide +kernel
theorem dX2_followBranch_64 : decode cX2_followBranch 64 = .ok (.if_icmp .ne 18, 3) := by decide +kernel
theorem dX2_followBranch_67 : decode cX2_followBranch 67 = .ok (.aload_n 1, 1) := by decide +kernel
theorem dX2_followBranch_68 : decode cX2_followBranch 68 = .ok (.iconst 0, 1) := by decide +kernel
theorem dX2_followBranch_69 : decode cX2_followBranch 69 = .ok (.putfield 142, 3) := by decide +kernel
theorem dX2_followBranch_72 : decode cX2_followBranch 72 = .ok (.aload_n 1, 1) := by decide +kernel
theorem dX2_followBranch_73 : decode cX2_followBranch 73 = .ok (.dup, 1) := by decide +kernel
theorem dX2_followBranch_74 : decode cX2_followBranch 74 = .ok (.getfield 120, 3) := by decide +kernel
theorem dX2_followBranch_77 : decode cX2_followBranch 77 = .ok (.iconst 1, 1) := by decide +kernel
theorem dX2_followBranch_78 : decode cX2_followBranch 78 = .ok (.iadd, 1) := by decide +kernel
theorem dX2_followBranch_79 : decode cX2_followBranch 79 = .ok (.putfield 120, 3) := by decide +kernel
theorem dX2_followBranch_82 : decode cX2_followBranch 82 = .ok (.return_, 1) := by decide +kernel
theorem dX2_doLeaf_0 : decode cX2_doLeaf 0 = .ok (.iload_n 2, 1) := by decide +kernel
theorem dX2_doLeaf_1 : decode cX2_doLeaf 1 = .ok (.tableswitch 114 2 11 #[55, 69, 80, 94, 114, 114, 105, 105, 105, 105], 55) := by decide +kernel
theorem dX2_doLeaf_56 : decode cX2_doLeaf 56 = .ok (.aload_n 0, 1) := by decide +kernel
theorem dX2_doLeaf_57 : decode cX2_doLeaf 57 = .ok (.aload_n 0, 1) := by decide +kernel
theorem dX2_doLeaf_58 : decode cX2_doLeaf 58 = .ok (.iload_n 1, 1) := by decide +kernel
theorem dX2_doLeaf_59 : decode cX2_doLeaf 59 = .ok (.iconst 1, 1) := by decide +kernel
theorem dX2_doLeaf_60 : decode cX2_doLeaf 60 = .ok (.iadd, 1) := by decide +kernel
theorem dX2_doLeaf_61 : decode cX2_doLeaf 61 = .ok (.invokevirtual 123, 3) := by decide +kernel
theorem dX2_doLeaf_64 : decode cX2_doLeaf 64 = .ok (.invokevirtual 126, 3) := by decide +kernel
theorem dX2_doLeaf_67 : decode cX2_doLeaf 67 = .ok (.goto 53, 3) := by decide +kernel
theorem dX2_doLeaf_70 : decode cX2_doLeaf 70 = .ok (.aload_n 0, 1) := by decide +kernel
theorem dX2_doLeaf_71 : decode cX2_doLeaf 71 = .ok (.iconst 1, 1) := by decide +kernel
theorem dX2_doLeaf_72 : decode cX2_doLeaf 72 = .ok (.iload_n 1, 1) := by decide +kernel
theorem dX2_doLeaf_73 : decode cX2_doLeaf 73 = .ok (.iconst 1, 1) := by decide +kernel
theorem dX2_doLeaf_74 : decode cX2_doLeaf 74 = .ok (.iadd, 1) := by decide +kernel
theorem dX2_doLeaf_75 : decode cX2_doLeaf 75 = .ok (.invokevirtual 169, 3) := by decide +kernel
theorem dX2_doLeaf_78 : decode cX2_doLeaf 78 = .ok (.goto 42, 3) := by decide +kernel
theorem dX2_doLeaf_81 : decode cX2_doLeaf 81 = .ok (.aload_n 0, 1) := by decide +kernel
theorem dX2_doLeaf_82 : decode cX2_doLeaf 82 = .ok (.aload_n 0, 1) := by decide +kernel
theorem dX2_doLeaf_83 : decode cX2_doLeaf 83 = .ok (.iload_n 1, 1) := by decide +kernel
theorem dX2_doLeaf_84 : decode cX2_doLeaf 84 = .ok (.iconst 1, 1) := by decide +kernel
theorem dX2_doLeaf_85 : decode cX2_doLeaf 85 = .ok (.iadd, 1) := by decide +kernel
theorem dX2_doLeaf_86 : decode cX2_doLeaf 86 = .ok (.invokevirtual 129, 3) := by decide +kernel
theorem dX2_doLeaf_89 : decode cX2_doLeaf 89 = .ok (.invokevirtual 126, 3) := by decide +kernel
theorem dX2_doLeaf_92 : decode cX2_doLeaf 92 = .ok (.goto 28, 3) := by decide +kernel
theorem dX2_doLeaf_95 : decode cX2_doLeaf 95 = .ok (.aload_n 0, 1) := by decide +kernel
theorem dX2_doLeaf_96 : decode cX2_doLeaf 96 = .ok (.iconst 2, 1) := by decide +kernel
theorem dX2_doLeaf_97 : decode cX2_doLeaf 97 = .ok (.iload_n 1, 1) := by decide +kernel
theorem dX2_doLeaf_98 : decode cX2_doLeaf 98 = .ok (.iconst 1, 1) := by decide +kernel
theorem dX2_doLeaf_99 : decode cX2_doLeaf 99 = .ok (.iadd, 1) := by decide +kernel
theorem dX2_doLeaf_100 : decode cX2_doLeaf 100 = .ok (.invokevirtual 169, 3) := by decide +kernel
theorem dX2_doLeaf_103 : decode cX2_doLeaf 103 = .ok (.goto 17, 3) := by decide +kernel
theorem dX2_doLeaf_106 : decode cX2_doLeaf 106 = .ok (.aload_n 0, 1) := by decide +kernel
theorem dX2_doLeaf_107 : decode cX2_doLeaf 107 = .ok (.iload_n 1, 1) := by decide +kernel
theorem dX2_doLeaf_108 : decode cX2_doLeaf 108 = .ok (.iload_n 2, 1) := by decide +kernel
theorem dX2_doLeaf_109 : decode cX2_doLeaf 109 = .ok (.invokevirtual 172, 3) := by decide +kernel
theorem dX2_doLeaf_112 : decode cX2_doLeaf 112 = .ok (.goto 8, 3) := by decide +kernel
theorem dX2_doLeaf_115 : decode cX2_doLeaf 115 = .ok (.aload_n 0, 1) := by decide +kernel
theorem dX2_doLeaf_116 : decode cX2_doLeaf 116 = .ok (.iconst 3, 1) := by decide +kernel
theorem dX2_doLeaf_117 : decode cX2_doLeaf 117 = .ok (.invokevirtual 106, 3) := by decide +kernel
theorem dX2_doLeaf_120 : decode cX2_doLeaf 120 = .ok (.return_, 1) := by decide +kernel
theorem dX2_enterThing_0 : decode cX2_enterThing 0 = .ok (.aload_n 0, 1) := by decide +kernel
theorem dX2_enterThing_1 : decode cX2_enterThing 1 = .ok (.iload_n 1, 1) := by decide +kernel
theorem dX2_enterThing_2 : decode cX2_enterThing 2 = .ok (.iconst 1, 1) := by decide +kernel
theorem dX2_enterThing_3 : decode cX2_enterThing 3 = .ok (.iadd, 1) := by decide +kernel
theorem dX2_enterThing_4 : decode cX2_enterThing 4 = .ok (.invokevirtual 129, 3) := by decide +kernel
theorem dX2_enterThing_7 : decode cX2_enterThing 7 = .ok (.istore_n 3, 1) := by decide +kernel
theorem dX2_enterThing_8 : decode cX2_enterThing 8 = .ok (.aload_n 0, 1) := by decide +kernel
theorem dX2_enterThing_9 : decode cX2_enterThing 9 = .ok (.getfield 47, 3) := by decide +kernel
theorem dX2_enterThing_12 : decode cX2_enterThing 12 = .ok (.ifCond .ne 21, 3) := by decide +kernel
theorem dX2_enterThing_15 : decode cX2_enterThing 15 = .ok (.iload_n 2, 1) := by decide +kernel
theorem dX2_enterThing_16 : decode cX2_enterThing 16 = .ok (.bipush 9, 2) := by decide +kernel
theorem dX2_enterThing_18 : decode cX2_enterThing 18 = .ok (.if_icmp .eq 9, 3) := by decide +kernel
theorem dX2_enterThing_21 : decode cX2_enterThing 21 = .ok (.iload_n 2, 1) := by decide +kernel
theorem dX2_enterThing_22 : decode cX2_enterThing 22 = .ok (.bipush 11, 2) := by decide +kernel
theorem dX2_enterThing_24 : decode cX2_enterThing 24 = .ok (.if_icmp .ne 9, 3) := by decide +kernel
theorem dX2_enterThing_27 : decode cX2_enterThing 27 = .ok (.aload_n 0, 1) := by decide +kernel
theorem dX2_enterThing_28 : decode cX2_enterThing 28 = .ok (.iload_n 3, 1) := by decide +kernel
theorem dX2_enterThing_29 : decode cX2_enterThing 29 = .ok (.invokevirtual 129, 3) := by decide +kernel
theorem dX2_enterThing_32 : decode cX2_enterThing 32 = .ok (.istore_n 3, 1) := by decide +kernel
theorem dX2_enterThing_33 : decode cX2_enterThing 33 = .ok (.aload_n 0, 1) := by decide +kernel
theorem dX2_enterThing_34 : decode cX2_enterThing 34 = .ok (.iconst 0, 1) := by decide +kernel
theorem dX2_enterThing_35 : decode cX2_enterThing 35 = .ok (.putfield 31, 3) := by decide +kernel
theorem dX2_enterThing_38 : decode cX2_enterThing 38 = .ok (.iload_n 2, 1) := by decide +kernel
theorem dX2_enterThing_39 : decode cX2_enterThing 39 = .ok (.bipush 10, 2) := by decide +kernel
theorem dX2_enterThing_41 : decode cX2_enterThing 41 = .ok (.if_icmp .eq 9, 3) := by decide +kernel
theorem dX2_enterThing_44 : decode cX2_enterThing 44 = .ok (.iload_n 2, 1) := by decide +kernel
theorem dX2_enterThing_45 : decode cX2_enterThing 45 = .ok (.bipush 11, 2) := by decide +kernel
theorem dX2_enterThing_47 : decode cX2_enterThing 47 = .ok (.if_icmp .ne 10, 3) := by decide +kernel
theorem dX2_enterThing_50 : decode cX2_enterThing 50 = .ok (.aload_n 0, 1) := by decide +kernel
theorem dX2_enterThing_51 : decode cX2_enterThing 51 = .ok (.iload_n 1, 1) := by decide +kernel
theorem dX2_enterThing_52 : decode cX2_enterThing 52 = .ok (.iconst 5, 1) := by decide +kernel
theorem dX2_enterThing_53 : decode cX2_enterThing 53 = .ok (.iadd, 1) := by decide +kernel
theorem dX2_enterThing_54 : decode cX2_enterThing 54 = .ok (.invokevirtual 175, 3) := by decide +kernel
theorem dX2_enterThing_57 : decode cX2_enterThing 57 = .ok (.aload_n 0, 1) := by decide +kernel
theorem dX2_enterThing_58 : decode cX2_enterThing 58 = .ok (.getfield 47, 3) := by decide +kernel
theorem dX2_enterThing_61 : decode cX2_enterThing 61 = .ok (.ifCond .ne 11, 3) := by decide +kernel
theorem dX2_enterThing_64 : decode cX2_enterThing 64 = .ok (.aload_n 0, 1) := by decide +kernel
theorem dX2_enterThing_65 : decode cX2_enterThing 65 = .ok (.iload_n 3, 1) := by decide +kernel
theorem dX2_enterThing_66 : decode cX2_enterThing 66 = .ok (.invokevirtual 123, 3) := by decide +kernel
theorem dX2_enterThing_69 : decode cX2_enterThing 69 = .ok (.goto 4, 3) := by decide +kernel
theorem dX2_enterThing_72 : decode cX2_enterThing 72 = .ok (.iconst 0, 1) := by decide +kernel
theorem dX2_enterThing_73 : decode cX2_enterThing 73 = .ok (.istore 4, 2) := by decide +kernel
theorem dX2_enterThing_75 : decode cX2_enterThing 75 = .ok (.aload_n 0, 1) := by decide +kernel
theorem dX2_enterThing_76 : decode cX2_enterThing 76 = .ok (.getfield 47, 3) := by decide +kernel
theorem dX2_enterThing_79 : decode cX2_enterThing 79 = .ok (.ifCond .eq 4, 3) := by decide +kernel
theorem dX2_enterThing_82 : decode cX2_enterThing 82 = .ok (.return_, 1) := by decide +kernel
theorem dX2_enterThing_83 : decode cX2_enterThing 83 = .ok (.iload 4, 2) := by decide +kernel
theorem dX2_enterThing_85 : decode cX2_enterThing 85 = .ok (.sipush 192, 3) := by decide +kernel
theorem dX2_enterThing_88 : decode cX2_enterThing 88 = .ok (.if_icmp .eq 11, 3) := by decide +kernel
theorem dX2_enterThing_91 : decode cX2_enterThing 91 = .ok (.iload 4, 2) := by decide +kernel
theorem dX2_enterThing_93 : decode cX2_enterThing 93 = .ok (.sipush 193, 3) := by decide +kernel
theorem dX2_enterThing_96 : decode cX2_enterThing 96 = .ok (.if_icmp .ne 14, 3) := by decide +kernel
theorem dX2_enterThing_99 : decode cX2_enterThing 99 = .ok (.aload_n 0, 1) := by decide +kernel
theorem dX2_enterThing_100 : decode cX2_enterThing 100 = .ok (.iload_n 3, 1) := by decide +kernel
theorem dX2_enterThing_101 : decode cX2_enterThing 101 = .ok (.sipush 255, 3) := by decide +kernel
theorem dX2_enterThing_104 : decode cX2_enterThing 104 = .ok (.invokevirtual 178, 3) := by decide +kernel
theorem dX2_enterThing_107 : decode cX2_enterThing 107 = .ok (.goto 8, 3) := by decide +kernel
theorem dX2_enterThing_110 : decode cX2_enterThing 110 = .ok (.aload_n 0, 1) := by decide +kernel
theorem dX2_enterThing_111 : decode cX2_enterThing 111 = .ok (.iload_n 3, 1) := by decide +kernel
theorem dX2_enterThing_112 : decode cX2_enterThing 112 = .ok (.invokevirtual 181, 3) := by decide +kernel
theorem dX2_enterThing_115 : decode cX2_enterThing 115 = .ok (.return_, 1) := by decide +kernel
theorem dX2_readArguments_0 : decode cX2_readArguments 0 = .ok (.aload_n 0, 1) := by decide +kernel
theorem dX2_readArguments_1 : decode cX2_readArguments 1 = .ok (.iload_n 1, 1) := by decide +kernel
theorem dX2_readArguments_2 : decode cX2_readArguments 2 = .ok (.invokevirtual 129, 3) := by decide +kernel
theorem dX2_readArguments_5 : decode cX2_readArguments 5 = .ok (.istore_n 2, 1) := by decide +kernel
theorem dX2_readArguments_6 : decode cX2_readArguments 6 = .ok (.iload_n 2, 1) := by decide +kernel
theorem dX2_readArguments_7 : decode cX2_readArguments 7 = .ok (.ifCond .lt 8, 3) := by decide +kernel
theorem dX2_readArguments_10 : decode cX2_readArguments 10 = .ok (.iload_n 2, 1) := by decide +kernel
theorem dX2_readArguments_11 : decode cX2_readArguments 11 = .ok (.iconst 4, 1) := by decide +kernel
theorem dX2_readArguments_12 : decode cX2_readArguments 12 = .ok (.if_icmp .le 9, 3) := by decide +kernel
theorem dX2_readArguments_15 : decode cX2_readArguments 15 = .ok (.aload_n 0, 1) := by decide +kernel
theorem dX2_readArguments_16 : decode cX2_readArguments 16 = .ok (.iconst 5, 1) := by decide +kernel
theorem dX2_readArguments_17 : decode cX2_readArguments 17 = .ok (.invokevirtual 106, 3) := by decide +kernel
theorem dX2_readArguments_20 : decode cX2_readArguments 20 = .ok (.return_, 1) := by decide +kernel
theorem dX2_readArguments_21 : decode cX2_readArguments 21 = .ok (.iconst 0, 1) := by decide +kernel
theorem dX2_readArguments_22 : decode cX2_readArguments 22 = .ok (.istore_n 3, 1) := by decide +kernel
theorem dX2_readArguments_23 : decode cX2_readArguments 23 = .ok (.iload_n 3, 1) := by decide +kernel
theorem dX2_readArguments_24 : decode cX2_readArguments 24 = .ok (.iload_n 2, 1) := by decide +kernel
theorem dX2_readArguments_25 : decode cX2_readArguments 25 = .ok (.if_icmp .ge 26, 3) := by decide +kernel
theorem dX2_readArguments_28 : decode cX2_readArguments 28 = .ok (.aload_n 0, 1) := by decide +kernel
theorem dX2_readArguments_29 : decode cX2_readArguments 29 = .ok (.getfield 28, 3) := by decide +kernel
theorem dX2_readArguments_32 : decode cX2_readArguments 32 = .ok (.iload_n 3, 1) := by decide +kernel
theorem dX2_readArguments_33 : decode cX2_readArguments 33 = .ok (.aload_n 0, 1) := by decide +kernel
theorem dX2_readArguments_34 : decode cX2_readArguments 34 = .ok (.iload_n 1, 1) := by decide +kernel
theorem dX2_readArguments_35 : decode cX2_readArguments 35 = .ok (.iconst 4, 1) := by decide +kernel
theorem dX2_readArguments_36 : decode cX2_readArguments 36 = .ok (.iadd, 1) := by decide +kernel
theorem dX2_readArguments_37 : decode cX2_readArguments 37 = .ok (.iconst 4, 1) := by decide +kernel
theorem dX2_readArguments_38 : decode cX2_readArguments 38 = .ok (.iload_n 3, 1) := by decide +kernel
theorem dX2_readArguments_39 : decode cX2_readArguments 39 = .ok (.imul, 1) := by decide +kernel
theorem dX2_readArguments_40 : decode cX2_readArguments 40 = .ok (.iadd, 1) := by decide +kernel
theorem dX2_readArguments_41 : decode cX2_readArguments 41 = .ok (.invokevirtual 129, 3) := by decide +kernel
theorem dX2_readArguments_44 : decode cX2_readArguments 44 = .ok (.iastore, 1) := by decide +kernel
theorem dX2_readArguments_45 : decode cX2_readArguments 45 = .ok (.iinc 3 1, 3) := by decide +kernel
theorem dX2_readArguments_48 : decode cX2_readArguments 48 = .ok (.goto (-25), 3) := by decide +kernel
theorem dX2_readArguments_51 : decode cX2_readArguments 51 = .ok (.aload_n 0, 1) := by decide +kernel
theorem dX2_readArguments_52 : decode cX2_readArguments 52 = .ok (.iload_n 2, 1) := by decide +kernel
theorem dX2_readArguments_53 : decode cX2_readArguments 53 = .ok (.putfield 31, 3) := by decide +kernel
theorem dX2_readArguments_56 : decode cX2_readArguments 56 = .ok (.return_, 1) := by decide +kernel
theorem dX2_begin_0 : decode cX2_begin 0 = .ok (.aload_n 0, 1) := by decide +kernel
theorem dX2_begin_1 : decode cX2_begin 1 = .ok (.getfield 47, 3) := by decide +kernel
theorem dX2_begin_4 : decode cX2_begin 4 = .ok (.ifCond .eq 4, 3) := by decide +kernel
theorem dX2_begin_7 : decode cX2_begin 7 = .ok (.return_, 1) := by decide +kernel
theorem dX2_begin_8 : decode cX2_begin 8 = .ok (.aload_n 0, 1) := by decide +kernel
theorem dX2_begin_9 : decode cX2_begin 9 = .ok (.getfield 35, 3) := by decide +kernel
theorem dX2_begin_12 : decode cX2_begin 12 = .ok (.bipush 40, 2) := by decide +kernel
theorem dX2_begin_14 : decode cX2_begin 14 = .ok (.if_icmp .lt 10, 3) := by decide +kernel
theorem dX2_begin_17 : decode cX2_begin 17 = .ok (.aload_n 0, 1) := by decide +kernel
theorem dX2_begin_18 : decode cX2_begin 18 = .ok (.bipush 8, 2) := by decide +kernel
theorem dX2_begin_20 : decode cX2_begin 20 = .ok (.invokevirtual 106, 3) := by decide +kernel
theorem dX2_begin_23 : decode cX2_begin 23 = .ok (.return_, 1) := by decide +kernel
theorem dX2_begin_24 : decode cX2_begin 24 = .ok (.aload_n 0, 1) := by decide +kernel
theorem dX2_begin_25 : decode cX2_begin 25 = .ok (.getfield 20, 3) := by decide +kernel
theorem dX2_begin_28 : decode cX2_begin 28 = .ok (.aload_n 0, 1) := by decide +kernel
theorem dX2_begin_29 : decode cX2_begin 29 = .ok (.getfield 35, 3) := by decide +kernel
theorem dX2_begin_32 : decode cX2_begin 32 = .ok (.aaload, 1) := by decide +kernel
theorem dX2_begin_33 : decode cX2_begin 33 = .ok (.iload_n 1, 1) := by decide +kernel
theorem dX2_begin_34 : decode cX2_begin 34 = .ok (.iload_n 2, 1) := by decide +kernel
theorem dX2_begin_35 : decode cX2_begin 35 = .ok (.invokevirtual 184, 3) := by decide +kernel
theorem dX2_begin_38 : decode cX2_begin 38 = .ok (.aload_n 0, 1) := by decide +kernel
theorem dX2_begin_39 : decode cX2_begin 39 = .ok (.dup, 1) := by decide +kernel
theorem dX2_begin_40 : decode cX2_begin 40 = .ok (.getfield 35, 3) := by decide +kernel
theorem dX2_begin_43 : decode cX2_begin 43 = .ok (.iconst 1, 1) := by decide +kernel
theorem dX2_begin_44 : decode cX2_begin 44 = .ok (.iadd, 1) := by decide +kernel
theorem dX2_begin_45 : decode cX2_begin 45 = .ok (.putfield 35, 3) := by decide +kernel
theorem dX2_begin_48 : decode cX2_begin 48 = .ok (.aload_n 0, 1) := by decide +kernel
theorem dX2_begin_49 : decode cX2_begin 49 = .ok (.getfield 12, 3) := by decide +kernel
theorem dX2_begin_52 : decode cX2_begin 52 = .ok (.aload_n 0, 1) := by decide +kernel
theorem dX2_begin_53 : decode cX2_begin 53 = .ok (.getfield 12, 3) := by decide +kernel
theorem dX2_begin_56 : decode cX2_begin 56 = .ok (.getfield 187, 3) := by decide +kernel
theorem dX2_begin_59 : decode cX2_begin 59 = .ok (.aload_n 0, 1) := by decide +kernel
theorem dX2_begin_60 : decode cX2_begin 60 = .ok (.getfield 35, 3) := by decide +kernel
theorem dX2_begin_63 : decode cX2_begin 63 = .ok (.invokestatic 190, 3) := by decide +kernel
theorem dX2_begin_66 : decode cX2_begin 66 = .ok (.putfield 187, 3) := by decide +kernel
theorem dX2_begin_69 : decode cX2_begin 69 = .ok (.return_, 1) := by decide +kernel
theorem dX2_beginString_0 : decode cX2_beginString 0 = .ok (.aload_n 0, 1) := by decide +kernel
theorem dX2_beginString_1 : decode cX2_beginString 1 = .ok (.iload_n 1, 1) := by decide +kernel
theorem dX2_beginString_2 : decode cX2_beginString 2 = .ok (.invokevirtual 123, 3) := by decide +kernel
theorem dX2_beginString_5 : decode cX2_beginString 5 = .ok (.istore_n 2, 1) := by decide +kernel
theorem dX2_beginString_6 : decode cX2_beginString 6 = .ok (.aload_n 0, 1) := by decide +kernel
theorem dX2_beginString_7 : decode cX2_beginString 7 = .ok (.getfield 47, 3) := by decide +kernel
theorem dX2_beginString_10 : decode cX2_beginString 10 = .ok (.ifCond .eq 4, 3) := by decide +kernel
theorem dX2_beginString_13 : decode cX2_beginString 13 = .ok (.return_, 1) := by decide +kernel
theorem dX2_beginString_14 : decode cX2_beginString 14 = .ok (.iload_n 2, 1) := by decide +kernel
theorem dX2_beginString_15 : decode cX2_beginString 15 = .ok (.tableswitch 58 224 226 #[25, 36, 47], 25) := by decide +kernel
theorem dX2_beginString_40 : decode cX2_beginString 40 = .ok (.aload_n 0, 1) := by decide +kernel
theorem dX2_beginString_41 : decode cX2_beginString 41 = .ok (.iconst 1, 1) := by decide +kernel
theorem dX2_beginString_42 : decode cX2_beginString 42 = .ok (.iload_n 1, 1) := by decide +kernel
theorem dX2_beginString_43 : decode cX2_beginString 43 = .ok (.iconst 1, 1) := by decide +kernel
theorem dX2_beginString_44 : decode cX2_beginString 44 = .ok (.iadd, 1) := by decide +kernel
theorem dX2_beginString_45 : decode cX2_beginString 45 = .ok (.invokevirtual 169, 3) := by decide +kernel
theorem dX2_beginString_48 : decode cX2_beginString 48 = .ok (.goto 30, 3) := by decide +kernel
theorem dX2_beginString_51 : decode cX2_beginString 51 = .ok (.aload_n 0, 1) := by decide +kernel
theorem dX2_beginString_52 : decode cX2_beginString 52 = .ok (.iconst 3, 1) := by decide +kernel
theorem dX2_beginString_53 : decode cX2_beginString 53 = .ok (.iload_n 1, 1) := by decide +kernel
theorem dX2_beginString_54 : decode cX2_beginString 54 = .ok (.iconst 1, 1) := by decide +kernel
theorem dX2_beginString_55 : decode cX2_beginString 55 = .ok (.iadd, 1) := by decide +kernel
theorem dX2_beginString_56 : decode cX2_beginString 56 = .ok (.invokevirtual 169, 3) := by decide +kernel
theorem dX2_beginString_59 : decode cX2_beginString 59 = .ok (.goto 19, 3) := by decide +kernel
theorem dX2_beginString_62 : decode cX2_beginString 62 = .ok (.aload_n 0, 1) := by decide +kernel
theorem dX2_beginString_63 : decode cX2_beginString 63 = .ok (.iconst 2, 1) := by decide +kernel
theorem dX2_beginString_64 : decode cX2_beginString 64 = .ok (.iload_n 1, 1) := by decide +kernel
theorem dX2_beginString_65 : decode cX2_beginString 65 = .ok (.iconst 4, 1) := by decide +kernel
theorem dX2_beginString_66 : decode cX2_beginString 66 = .ok (.iadd, 1) := by decide +kernel
theorem dX2_beginString_67 : decode cX2_beginString 67 = .ok (.invokevirtual 169, 3) := by decide +kernel
theorem dX2_beginString_70 : decode cX2_beginString 70 = .ok (.goto 8, 3) := by decide +kernel
theorem dX2_beginString_73 : decode cX2_beginString 73 = .ok (.aload_n 0, 1) := by decide +kernel
theorem dX2_beginString_74 : decode cX2_beginString 74 = .ok (.iconst 4, 1) := by decide +kernel
theorem dX2_beginString_75 : decode cX2_beginString 75 = .ok (.invokevirtual 106, 3) := by decide +kernel
theorem dX2_beginString_78 : decode cX2_beginString 78 = .ok (.return_, 1) := by decide +kernel
theorem dX2_callFunction_0 : decode cX2_callFunction 0 = .ok (.aload_n 0, 1) := by decide +kernel
theorem dX2_callFunction_1 : decode cX2_callFunction 1 = .ok (.iload_n 1, 1) := by decide +kernel
theorem dX2_callFunction_2 : decode cX2_callFunction 2 = .ok (.invokevirtual 123, 3) := by decide +kernel
theorem dX2_callFunction_5 : decode cX2_callFunction 5 = .ok (.istore_n 3, 1) := by decide +kernel
theorem dX2_callFunction_6 : decode cX2_callFunction 6 = .ok (.aload_n 0, 1) := by decide +kernel
theorem dX2_callFunction_7 : decode cX2_callFunction 7 = .ok (.getfield 47, 3) := by decide +kernel
theorem dX2_callFunction_10 : decode cX2_callFunction 10 = .ok (.ifCond .eq 4, 3) := by decide +kernel
theorem dX2_callFunction_13 : decode cX2_callFunction 13 = .ok (.return_, 1) := by decide +kernel
theorem dX2_callFunction_14 : decode cX2_callFunction 14 = .ok (.iload_n 3, 1) := by decide +kernel
theorem dX2_callFunction_15 : decode cX2_callFunction 15 = .ok (.sipush 192, 3) := by decide +kernel
theorem dX2_callFunction_18 : decode cX2_callFunction 18 = .ok (.if_icmp .eq 16, 3) := by decide +kernel
theorem dX2_callFunction_21 : decode cX2_callFunction 21 = .ok (.iload_n 3, 1) := by decide +kernel
theorem dX2_callFunction_22 : decode cX2_callFunction 22 = .ok (.sipush 193, 3) := by decide +kernel
theorem dX2_callFunction_25 : decode cX2_callFunction 25 = .ok (.if_icmp .eq 9, 3) := by decide +kernel
theorem dX2_callFunction_28 : decode cX2_callFunction 28 = .ok (.aload_n 0, 1) := by decide +kernel
theorem dX2_callFunction_29 : decode cX2_callFunction 29 = .ok (.iconst 4, 1) := by decide +kernel
theorem dX2_callFunction_30 : decode cX2_callFunction 30 = .ok (.invokevirtual 106, 3) := by decide +kernel
theorem dX2_callFunction_33 : decode cX2_callFunction 33 = .ok (.return_, 1) := by decide +kernel
theorem dX2_callFunction_34 : decode cX2_callFunction 34 = .ok (.aload_n 0, 1) := by decide +kernel
theorem dX2_callFunction_35 : decode cX2_callFunction 35 = .ok (.iload_n 1, 1) := by decide +kernel
theorem dX2_callFunction_36 : decode cX2_callFunction 36 = .ok (.iconst 1, 1) := by decide +kernel
theorem dX2_callFunction_37 : decode cX2_callFunction 37 = .ok (.iadd, 1) := by decide +kernel
theorem dX2_callFunction_38 : decode cX2_callFunction 38 = .ok (.invokevirtual 123, 3) := by decide +kernel
theorem dX2_callFunction_41 : decode cX2_callFunction 41 = .ok (.istore 4, 2) := by decide +kernel
theorem dX2_callFunction_43 : decode cX2_callFunction 43 = .ok (.iload 4, 2) := by decide +kernel
theorem dX2_callFunction_45 : decode cX2_callFunction 45 = .ok (.bipush 8, 2) := by decide +kernel
theorem dX2_callFunction_47 : decode cX2_callFunction 47 = .ok (.if_icmp .le 8, 3) := by decide +kernel
theorem dX2_callFunction_50 : decode cX2_callFunction 50 = .ok (.aload_n 0, 1) := by decide +kernel
theorem dX2_callFunction_51 : decode cX2_callFunction 51 = .ok (.iconst 4, 1) := by decide +kernel
theorem dX2_callFunction_52 : decode cX2_callFunction 52 = .ok (.invokevirtual 106, 3) := by decide +kernel
theorem dX2_callFunction_55 : decode cX2_callFunction 55 = .ok (.aload_n 0, 1) := by decide +kernel
theorem dX2_callFunction_56 : decode cX2_callFunction 56 = .ok (.iconst 0, 1) := by decide +kernel
theorem dX2_callFunction_57 : decode cX2_callFunction 57 = .ok (.iload_n 1, 1) := by decide +kernel
theorem dX2_callFunction_58 : decode cX2_callFunction 58 = .ok (.iconst 2, 1) := by decide +kernel
theorem dX2_callFunction_59 : decode cX2_callFunction 59 = .ok (.iadd, 1) := by decide +kernel
theorem dX2_callFunction_60 : decode cX2_callFunction 60 = .ok (.invokevirtual 169, 3) := by decide +kernel
theorem dX2_callFunction_63 : decode cX2_callFunction 63 = .ok (.aload_n 0, 1) := by decide +kernel
theorem dX2_callFunction_64 : decode cX2_callFunction 64 = .ok (.getfield 47, 3) := by decide +kernel
theorem dX2_callFunction_67 : decode cX2_callFunction 67 = .ok (.ifCond .ne 10, 3) := by decide +kernel
theorem dX2_callFunction_70 : decode cX2_callFunction 70 = .ok (.aload_n 0, 1) := by decide +kernel
theorem dX2_callFunction_71 : decode cX2_callFunction 71 = .ok (.getfield 35, 3) := by decide +kernel
theorem dX2_callFunction_74 : decode cX2_callFunction 74 = .ok (.ifCond .ne 4, 3) := by decide +kernel
theorem dX2_callFunction_77 : decode cX2_callFunction 77 = .ok (.return_, 1) := by decide +kernel
theorem dX2_callFunction_78 : decode cX2_callFunction 78 = .ok (.aload_n 0, 1) := by decide +kernel
theorem dX2_callFunction_79 : decode cX2_callFunction 79 = .ok (.getfield 20, 3) := by decide +kernel
theorem dX2_callFunction_82 : decode cX2_callFunction 82 = .ok (.aload_n 0, 1) := by decide +kernel
theorem dX2_callFunction_83 : decode cX2_callFunction 83 = .ok (.getfield 35, 3) := by decide +kernel
theorem dX2_callFunction_86 : decode cX2_callFunction 86 = .ok (.iconst 1, 1) := by decide +kernel
theorem dX2_callFunction_87 : decode cX2_callFunction 87 = .ok (.isub, 1) := by decide +kernel
theorem dX2_callFunction_88 : decode cX2_callFunction 88 = .ok (.aaload, 1) := by decide +kernel
theorem dX2_callFunction_89 : decode cX2_callFunction 89 = .ok (.astore 5, 2) := by decide +kernel
theorem dX2_callFunction_91 : decode cX2_callFunction 91 = .ok (.aload 5, 2) := by decide +kernel
theorem dX2_callFunction_93 : decode cX2_callFunction 93 = .ok (.iload 4, 2) := by decide +kernel
theorem dX2_callFunction_95 : decode cX2_callFunction 95 = .ok (.putfield 194, 3) := by decide +kernel
theorem dX2_callFunction_98 : decode cX2_callFunction 98 = .ok (.aload 5, 2) := by decide +kernel
theorem dX2_callFunction_100 : decode cX2_callFunction 100 = .ok (.iload_n 2, 1) := by decide +kernel
theorem dX2_callFunction_101 : decode cX2_callFunction 101 = .ok (.putfield 197, 3) := by decide +kernel
theorem dX2_callFunction_104 : decode cX2_callFunction 104 = .ok (.aload_n 0, 1) := by decide +kernel
theorem dX2_callFunction_105 : decode cX2_callFunction 105 = .ok (.aload 5, 2) := by decide +kernel
theorem dX2_callFunction_107 : decode cX2_callFunction 107 = .ok (.iload_n 3, 1) := by decide +kernel
theorem dX2_callFunction_108 : decode cX2_callFunction 108 = .ok (.sipush 192, 3) := by decide +kernel
theorem dX2_callFunction_111 : decode cX2_callFunction 111 = .ok (.if_icmp .ne 7, 3) := by decide +kernel
theorem dX2_callFunction_114 : decode cX2_callFunction 114 = .ok (.iconst 1, 1) := by decide +kernel
theorem dX2_callFunction_115 : decode cX2_callFunction 115 = .ok (.goto 4, 3) := by decide +kernel
theorem dX2_callFunction_118 : decode cX2_callFunction 118 = .ok (.iconst 0, 1) := by decide +kernel
theorem dX2_callFunction_119 : decode cX2_callFunction 119 = .ok (.invokevirtual 200, 3) := by decide +kernel
theorem dX2_callFunction_122 : decode cX2_callFunction 122 = .ok (.return_, 1) := by decide +kernel
theorem dX2_fillLocals_0 : decode cX2_fillLocals 0 = .ok (.aload_n 1, 1) := by decide +kernel
theorem dX2_fillLocals_1 : decode cX2_fillLocals 1 = .ok (.getfield 204, 3) := by decide +kernel
theorem dX2_fillLocals_4 : decode cX2_fillLocals 4 = .ok (.iconst 0, 1) := by decide +kernel
theorem dX2_fillLocals_5 : decode cX2_fillLocals 5 = .ok (.invokestatic 207, 3) := by decide +kernel
theorem dX2_fillLocals_8 : decode cX2_fillLocals 8 = .ok (.iconst 0, 1) := by decide +kernel
theorem dX2_fillLocals_9 : decode cX2_fillLocals 9 = .ok (.istore_n 3, 1) := by decide +kernel
theorem dX2_fillLocals_10 : decode cX2_fillLocals 10 = .ok (.iload_n 2, 1) := by decide +kernel
theorem dX2_fillLocals_11 : decode cX2_fillLocals 11 = .ok (.ifCond .eq 14, 3) := by decide +kernel
theorem dX2_fillLocals_14 : decode cX2_fillLocals 14 = .ok (.aload_n 1, 1) := by decide +kernel
theorem dX2_fillLocals_15 : decode cX2_fillLocals 15 = .ok (.iconst 0, 1) := by decide +kernel
theorem dX2_fillLocals_16 : decode cX2_fillLocals 16 = .ok (.aload_n 0, 1) := by decide +kernel
theorem dX2_fillLocals_17 : decode cX2_fillLocals 17 = .ok (.getfield 31, 3) := by decide +kernel
theorem dX2_fillLocals_20 : decode cX2_fillLocals 20 = .ok (.invokevirtual 213, 3) := by decide +kernel
theorem dX2_fillLocals_23 : decode cX2_fillLocals 23 = .ok (.iconst 1, 1) := by decide +kernel
theorem dX2_fillLocals_24 : decode cX2_fillLocals 24 = .ok (.istore_n 3, 1) := by decide +kernel
theorem dX2_fillLocals_25 : decode cX2_fillLocals 25 = .ok (.iconst 0, 1) := by decide +kernel
theorem dX2_fillLocals_26 : decode cX2_fillLocals 26 = .ok (.istore 4, 2) := by decide +kernel
theorem dX2_fillLocals_28 : decode cX2_fillLocals 28 = .ok (.iload 4, 2) := by decide +kernel
theorem dX2_fillLocals_30 : decode cX2_fillLocals 30 = .ok (.aload_n 0, 1) := by decide +kernel
theorem dX2_fillLocals_31 : decode cX2_fillLocals 31 = .ok (.getfield 31, 3) := by decide +kernel
theorem dX2_fillLocals_34 : decode cX2_fillLocals 34 = .ok (.if_icmp .ge 30, 3) := by decide +kernel
theorem dX2_fillLocals_37 : decode cX2_fillLocals 37 = .ok (.iload 4, 2) := by decide +kernel
theorem dX2_fillLocals_39 : decode cX2_fillLocals 39 = .ok (.iconst 4, 1) := by decide +kernel
theorem dX2_fillLocals_40 : decode cX2_fillLocals 40 = .ok (.if_icmp .ge 24, 3) := by decide +kernel
theorem dX2_fillLocals_43 : decode cX2_fillLocals 43 = .ok (.aload_n 1, 1) := by decide +kernel
theorem dX2_fillLocals_44 : decode cX2_fillLocals 44 = .ok (.iload_n 3, 1) := by decide +kernel
theorem dX2_fillLocals_45 : decode cX2_fillLocals 45 = .ok (.iload 4, 2) := by decide +kernel
theorem dX2_fillLocals_47 : decode cX2_fillLocals 47 = .ok (.iadd, 1) := by decide +kernel
theorem dX2_fillLocals_48 : decode cX2_fillLocals 48 = .ok (.aload_n 0, 1) := by decide +kernel
theorem dX2_fillLocals_49 : decode cX2_fillLocals 49 = .ok (.getfield 28, 3) := by decide +kernel
theorem dX2_fillLocals_52 : decode cX2_fillLocals 52 = .ok (.iload 4, 2) := by decide +kernel
theorem dX2_fillLocals_54 : decode cX2_fillLocals 54 = .ok (.iaload, 1) := by decide +kernel
theorem dX2_fillLocals_55 : decode cX2_fillLocals 55 = .ok (.invokevirtual 213, 3) := by decide +kernel
theorem dX2_fillLocals_58 : decode cX2_fillLocals 58 = .ok (.iinc 4 1, 3) := by decide +kernel
theorem dX2_fillLocals_61 : decode cX2_fillLocals 61 = .ok (.goto (-33), 3) := by decide +kernel
theorem dX2_fillLocals_64 : decode cX2_fillLocals 64 = .ok (.return_, 1) := by decide +kernel
theorem dX2_give_0 : decode cX2_give 0 = .ok (.aload_n 0, 1) := by decide +kernel
theorem dX2_give_1 : decode cX2_give 1 = .ok (.getfield 47, 3) := by decide +kernel
theorem dX2_give_4 : decode cX2_give 4 = .ok (.ifCond .eq 4, 3) := by decide +kernel
theorem dX2_give_7 : decode cX2_give 7 = .ok (.return_, 1) := by decide +kernel
theorem dX2_give_8 : decode cX2_give 8 = .ok (.aload_n 0, 1) := by decide +kernel
theorem dX2_give_9 : decode cX2_give 9 = .ok (.getfield 41, 3) := by decide +kernel
theorem dX2_give_12 : decode cX2_give 12 = .ok (.iconst 2, 1) := by decide +kernel
theorem dX2_give_13 : decode cX2_give 13 = .ok (.if_icmp .ne 11, 3) := by decide +kernel
theorem dX2_give_16 : decode cX2_give 16 = .ok (.aload_n 0, 1) := by decide +kernel
theorem dX2_give_17 : decode cX2_give 17 = .ok (.iload_n 1, 1) := by decide +kernel
theorem dX2_give_18 : decode cX2_give 18 = .ok (.invokevirtual 216, 3) := by decide +kernel
theorem dX2_give_21 : decode cX2_give 21 = .ok (.goto 70, 3) := by decide +kernel
theorem dX2_give_24 : decode cX2_give 24 = .ok (.aload_n 0, 1) := by decide +kernel
theorem dX2_give_25 : decode cX2_give 25 = .ok (.getfield 41, 3) := by decide +kernel
theorem dX2_give_28 : decode cX2_give 28 = .ok (.iconst 1, 1) := by decide +kernel
theorem dX2_give_29 : decode cX2_give 29 = .ok (.if_icmp .ne 49, 3) := by decide +kernel
theorem dX2_give_32 : decode cX2_give 32 = .ok (.aload_n 0, 1) := by decide +kernel
theorem dX2_give_33 : decode cX2_give 33 = .ok (.getfield 28, 3) := by decide +kernel
theorem dX2_give_36 : decode cX2_give 36 = .ok (.iconst 0, 1) := by decide +kernel
theorem dX2_give_37 : decode cX2_give 37 = .ok (.iload_n 1, 1) := by decide +kernel
theorem dX2_give_38 : decode cX2_give 38 = .ok (.iastore, 1) := by decide +kernel
theorem dX2_give_39 : decode cX2_give 39 = .ok (.aload_n 0, 1) := by decide +kernel
theorem dX2_give_40 : decode cX2_give 40 = .ok (.iconst 1, 1) := by decide +kernel
theorem dX2_give_41 : decode cX2_give 41 = .ok (.putfield 31, 3) := by decide +kernel
theorem dX2_give_44 : decode cX2_give 44 = .ok (.aload_n 0, 1) := by decide +kernel
theorem dX2_give_45 : decode cX2_give 45 = .ok (.aload_n 0, 1) := by decide +kernel
theorem dX2_give_46 : decode cX2_give 46 = .ok (.getfield 44, 3) := by decide +kernel
theorem dX2_give_49 : decode cX2_give 49 = .ok (.sipush 255, 3) := by decide +kernel
theorem dX2_give_52 : decode cX2_give 52 = .ok (.invokevirtual 178, 3) := by decide +kernel
theorem dX2_give_55 : decode cX2_give 55 = .ok (.aload_n 0, 1) := by decide +kernel
theorem dX2_give_56 : decode cX2_give 56 = .ok (.getfield 47, 3) := by decide +kernel
theorem dX2_give_59 : decode cX2_give 59 = .ok (.ifCond .ne 32, 3) := by decide +kernel
theorem dX2_give_62 : decode cX2_give 62 = .ok (.aload_n 0, 1) := by decide +kernel
theorem dX2_give_63 : decode cX2_give 63 = .ok (.getfield 12, 3) := by decide +kernel
theorem dX2_give_66 : decode cX2_give 66 = .ok (.dup, 1) := by decide +kernel
theorem dX2_give_67 : decode cX2_give 67 = .ok (.getfield 219, 3) := by decide +kernel
theorem dX2_give_70 : decode cX2_give 70 = .ok (.iconst 1, 1) := by decide +kernel
theorem dX2_give_71 : decode cX2_give 71 = .ok (.iadd, 1) := by decide +kernel
theorem dX2_give_72 : decode cX2_give 72 = .ok (.putfield 219, 3) := by decide +kernel
theorem dX2_give_75 : decode cX2_give 75 = .ok (.goto 16, 3) := by decide +kernel
theorem dX2_give_78 : decode cX2_give 78 = .ok (.aload_n 0, 1) := by decide +kernel
theorem dX2_give_79 : decode cX2_give 79 = .ok (.getfield 12, 3) := by decide +kernel
theorem dX2_give_82 : decode cX2_give 82 = .ok (.dup, 1) := by decide +kernel
theorem dX2_give_83 : decode cX2_give 83 = .ok (.getfield 222, 3) := by decide +kernel
theorem dX2_give_86 : decode cX2_give 86 = .ok (.iconst 1, 1) := by decide +kernel
theorem dX2_give_87 : decode cX2_give 87 = .ok (.iadd, 1) := by decide +kernel
theorem dX2_give_88 : decode cX2_give 88 = .ok (.putfield 222, 3) := by decide +kernel
theorem dX2_give_91 : decode cX2_give 91 = .ok (.return_, 1) := by decide +kernel
theorem dX2_putOut_0 : decode cX2_putOut 0 = .ok (.aload_n 0, 1) := by decide +kernel
theorem dX2_putOut_1 : decode cX2_putOut 1 = .ok (.getfield 38, 3) := by decide +kernel
theorem dX2_putOut_4 : decode cX2_putOut 4 = .ok (.sipush 1000, 3) := by decide +kernel
theorem dX2_putOut_7 : decode cX2_putOut 7 = .ok (.if_icmp .lt 10, 3) := by decide +kernel
theorem dX2_putOut_10 : decode cX2_putOut 10 = .ok (.aload_n 0, 1) := by decide +kernel
theorem dX2_putOut_11 : decode cX2_putOut 11 = .ok (.bipush 9, 2) := by decide +kernel
theorem dX2_putOut_13 : decode cX2_putOut 13 = .ok (.invokevirtual 106, 3) := by decide +kernel
theorem dX2_putOut_16 : decode cX2_putOut 16 = .ok (.return_, 1) := by decide +kernel
theorem dX2_putOut_17 : decode cX2_putOut 17 = .ok (.aload_n 0, 1) := by decide +kernel
theorem dX2_putOut_18 : decode cX2_putOut 18 = .ok (.getfield 24, 3) := by decide +kernel
theorem dX2_putOut_21 : decode cX2_putOut 21 = .ok (.aload_n 0, 1) := by decide +kernel
theorem dX2_putOut_22 : decode cX2_putOut 22 = .ok (.getfield 38, 3) := by decide +kernel
theorem dX2_putOut_25 : decode cX2_putOut 25 = .ok (.iload_n 1, 1) := by decide +kernel
theorem dX2_putOut_26 : decode cX2_putOut 26 = .ok (.iastore, 1) := by decide +kernel
theorem dX2_putOut_27 : decode cX2_putOut 27 = .ok (.aload_n 0, 1) := by decide +kernel
theorem dX2_putOut_28 : decode cX2_putOut 28 = .ok (.dup, 1) := by decide +kernel
theorem dX2_putOut_29 : decode cX2_putOut 29 = .ok (.getfield 38, 3) := by decide +kernel
theorem dX2_putOut_32 : decode cX2_putOut 32 = .ok (.iconst 1, 1) := by decide +kernel
theorem dX2_putOut_33 : decode cX2_putOut 33 = .ok (.iadd, 1) := by decide +kernel
theorem dX2_putOut_34 : decode cX2_putOut 34 = .ok (.putfield 38, 3) := by decide +kernel
theorem dX2_putOut_37 : decode cX2_putOut 37 = .ok (.aload_n 0, 1) := by decide +kernel
theorem dX2_putOut_38 : decode cX2_putOut 38 = .ok (.getfield 12, 3) := by decide +kernel
theorem dX2_putOut_41 : decode cX2_putOut 41 = .ok (.dup, 1) := by decide +kernel
theorem dX2_putOut_42 : decode cX2_putOut 42 = .ok (.getfield 66, 3) := by decide +kernel
theorem dX2_putOut_45 : decode cX2_putOut 45 = .ok (.iconst 1, 1) := by decide +kernel
theorem dX2_putOut_46 : decode cX2_putOut 46 = .ok (.iadd, 1) := by decide +kernel
theorem dX2_putOut_47 : decode cX2_putOut 47 = .ok (.putfield 66, 3) := by decide +kernel
theorem dX2_putOut_50 : decode cX2_putOut 50 = .ok (.return_, 1) := by decide +kernel
theorem dX2_doOrder_0 : decode cX2_doOrder 0 = .ok (.aload_n 0, 1) := by decide +kernel
theorem dX2_doOrder_1 : decode cX2_doOrder 1 = .ok (.aload_n 1, 1) := by decide +kernel
theorem dX2_doOrder_2 : decode cX2_doOrder 2 = .ok (.getfield 120, 3) := by decide +kernel
theorem dX2_doOrder_5 : decode cX2_doOrder 5 = .ok (.putfield 50, 3) := by decide +kernel
theorem dX2_doOrder_8 : decode cX2_doOrder 8 = .ok (.aload_n 0, 1) := by decide +kernel
theorem dX2_doOrder_9 : decode cX2_doOrder 9 = .ok (.invokevirtual 225, 3) := by decide +kernel
theorem dX2_doOrder_12 : decode cX2_doOrder 12 = .ok (.istore_n 2, 1) := by decide +kernel
theorem dX2_doOrder_13 : decode cX2_doOrder 13 = .ok (.iload_n 2, 1) := by decide +kernel
theorem dX2_doOrder_14 : decode cX2_doOrder 14 = .ok (.bipush 17, 2) := by decide +kernel
theorem dX2_doOrder_16 : decode cX2_doOrder 16 = .ok (.if_icmp .le 9, 3) := by decide +kernel
theorem dX2_doOrder_19 : decode cX2_doOrder 19 = .ok (.aload_n 0, 1) := by decide +kernel
theorem dX2_doOrder_20 : decode cX2_doOrder 20 = .ok (.bipush 6, 2) := by decide +kernel
theorem dX2_doOrder_22 : decode cX2_doOrder 22 = .ok (.invokevirtual 106, 3) := by decide +kernel
theorem dX2_doOrder_25 : decode cX2_doOrder 25 = .ok (.aload_n 0, 1) := by decide +kernel
theorem dX2_doOrder_26 : decode cX2_doOrder 26 = .ok (.getfield 47, 3) := by decide +kernel
theorem dX2_doOrder_29 : decode cX2_doOrder 29 = .ok (.ifCond .eq 4, 3) := by decide +kernel
theorem dX2_doOrder_32 : decode cX2_doOrder 32 = .ok (.return_, 1) := by decide +kernel
theorem dX2_doOrder_33 : decode cX2_doOrder 33 = .ok (.iload_n 2, 1) := by decide +kernel
theorem dX2_doOrder_34 : decode cX2_doOrder 34 = .ok (.bipush 6, 2) := by decide +kernel
theorem dX2_doOrder_36 : decode cX2_doOrder 36 = .ok (.if_icmp .ne 9, 3) := by decide +kernel
theorem dX2_doOrder_39 : decode cX2_doOrder 39 = .ok (.aload_n 0, 1) := by decide +kernel
theorem dX2_doOrder_40 : decode cX2_doOrder 40 = .ok (.aload_n 1, 1) := by decide +kernel
theorem dX2_doOrder_41 : decode cX2_doOrder 41 = .ok (.invokevirtual 228, 3) := by decide +kernel
theorem dX2_doOrder_44 : decode cX2_doOrder 44 = .ok (.return_, 1) := by decide +kernel
theorem dX2_doOrder_45 : decode cX2_doOrder 45 = .ok (.getstatic 231, 3) := by decide +kernel
theorem dX2_doOrder_48 : decode cX2_doOrder 48 = .ok (.iload_n 2, 1) := by decide +kernel
theorem dX2_doOrder_49 : decode cX2_doOrder 49 = .ok (.iaload, 1) := by decide +kernel
theorem dX2_doOrder_50 : decode cX2_doOrder 50 = .ok (.ifCond .le 11, 3) := by decide +kernel
theorem dX2_doOrder_53 : decode cX2_doOrder 53 = .ok (.aload_n 0, 1) := by decide +kernel
theorem dX2_doOrder_54 : decode cX2_doOrder 54 = .ok (.aload_n 1, 1) := by decide +kernel
theorem dX2_doOrder_55 : decode cX2_doOrder 55 = .ok (.invokevirtual 234, 3) := by decide +kernel
theorem dX2_doOrder_58 : decode cX2_doOrder 58 = .ok (.goto 4, 3) := by decide +kernel
theorem dX2_doOrder_61 : decode cX2_doOrder 61 = .ok (.iconst 0, 1) := by decide +kernel
theorem dX2_doOrder_62 : decode cX2_doOrder 62 = .ok (.istore_n 3, 1) := by decide +kernel
theorem dX2_doOrder_63 : decode cX2_doOrder 63 = .ok (.getstatic 231, 3) := by decide +kernel
theorem dX2_doOrder_66 : decode cX2_doOrder 66 = .ok (.iload_n 2, 1) := by decide +kernel
theorem dX2_doOrder_67 : decode cX2_doOrder 67 = .ok (.iaload, 1) := by decide +kernel
theorem dX2_doOrder_68 : decode cX2_doOrder 68 = .ok (.iconst 1, 1) := by decide +kernel
theorem dX2_doOrder_69 : decode cX2_doOrder 69 = .ok (.if_icmp .le 11, 3) := by decide +kernel
theorem dX2_doOrder_72 : decode cX2_doOrder 72 = .ok (.aload_n 0, 1) := by decide +kernel
theorem dX2_doOrder_73 : decode cX2_doOrder 73 = .ok (.aload_n 1, 1) := by decide +kernel
theorem dX2_doOrder_74 : decode cX2_doOrder 74 = .ok (.invokevirtual 234, 3) := by decide +kernel
theorem dX2_doOrder_77 : decode cX2_doOrder 77 = .ok (.goto 4, 3) := by decide +kernel
theorem dX2_doOrder_80 : decode cX2_doOrder 80 = .ok (.iconst 0, 1) := by decide +kernel
theorem dX2_doOrder_81 : decode cX2_doOrder 81 = .ok (.istore 4, 2) := by decide +kernel
theorem dX2_doOrder_83 : decode cX2_doOrder 83 = .ok (.getstatic 238, 3) := by decide +kernel
theorem dX2_doOrder_86 : decode cX2_doOrder 86 = .ok (.iload_n 2, 1) := by decide +kernel
theorem dX2_doOrder_87 : decode cX2_doOrder 87 = .ok (.iaload, 1) := by decide +kernel
theorem dX2_doOrder_88 : decode cX2_doOrder 88 = .ok (.iconst 1, 1) := by decide +kernel
theorem dX2_doOrder_89 : decode cX2_doOrder 89 = .ok (.if_icmp .ne 11, 3) := by decide +kernel
theorem dX2_doOrder_92 : decode cX2_doOrder 92 = .ok (.aload_n 0, 1) := by decide +kernel
theorem dX2_doOrder_93 : decode cX2_doOrder 93 = .ok (.aload_n 1, 1) := by decide +kernel
theorem dX2_doOrder_94 : decode cX2_doOrder 94 = .ok (.invokevirtual 241, 3) := by decide +kernel
theorem dX2_doOrder_97 : decode cX2_doOrder 97 = .ok (.goto 6, 3) := by decide +kernel
theorem dX2_doOrder_100 : decode cX2_doOrder 100 = .ok (.sipush 255, 3) := by decide +kernel
theorem dX2_doOrder_103 : decode cX2_doOrder 103 = .ok (.istore 5, 2) := by decide +kernel
theorem dX2_doOrder_105 : decode cX2_doOrder 105 = .ok (.getstatic 238, 3) := by decide +kernel
theorem dX2_doOrder_108 : decode cX2_doOrder 108 = .ok (.iload_n 2, 1) := by decide +kernel
theorem dX2_doOrder_109 : decode cX2_doOrder 109 = .ok (.iaload, 1) := by decide +kernel
theorem dX2_doOrder_110 : decode cX2_doOrder 110 = .ok (.iconst 2, 1) := by decide +kernel
theorem dX2_doOrder_111 : decode cX2_doOrder 111 = .ok (.if_icmp .ne 10, 3) := by decide +kernel
theorem dX2_doOrder_114 : decode cX2_doOrder 114 = .ok (.aload_n 0, 1) := by decide +kernel
theorem dX2_doOrder_115 : decode cX2_doOrder 115 = .ok (.invokevirtual 244, 3) := by decide +kernel
theorem dX2_doOrder_118 : decode cX2_doOrder 118 = .ok (.goto 4, 3) := by decide +kernel
theorem dX2_doOrder_121 : decode cX2_doOrder 121 = .ok (.iconst 0, 1) := by decide +kernel
theorem dX2_doOrder_122 : decode cX2_doOrder 122 = .ok (.istore 6, 2) := by decide +kernel
theorem dX2_doOrder_124 : decode cX2_doOrder 124 = .ok (.aload_n 0, 1) := by decide +kernel
theorem dX2_doOrder_125 : decode cX2_doOrder 125 = .ok (.getfield 47, 3) := by decide +kernel
theorem dX2_doOrder_128 : decode cX2_doOrder 128 = .ok (.ifCond .eq 4, 3) := by decide +kernel
theorem dX2_doOrder_131 : decode cX2_doOrder 131 = .ok (.return_, 1) := by decide +kernel
theorem dX2_doOrder_132 : decode cX2_doOrder 132 = .ok (.aload_n 1, 1) := by decide +kernel
theorem dX2_doOrder_133 : decode cX2_doOrder 133 = .ok (.aload_n 0, 1) := by decide +kernel
theorem dX2_doOrder_134 : decode cX2_doOrder 134 = .ok (.getfield 50, 3) := by decide +kernel
theorem dX2_doOrder_137 : decode cX2_doOrder 137 = .ok (.putfield 120, 3) := by decide +kernel
theorem dX2_doOrder_140 : decode cX2_doOrder 140 = .ok (.getstatic 238, 3) := by decide +kernel
theorem dX2_doOrder_143 : decode cX2_doOrder 143 = .ok (.iload_n 2, 1) := by decide +kernel
theorem dX2_doOrder_144 : decode cX2_doOrder 144 = .ok (.iaload, 1) := by decide +kernel
theorem dX2_doOrder_145 : decode cX2_doOrder 145 = .ok (.iconst 1, 1) := by decide +kernel
theorem dX2_doOrder_146 : decode cX2_doOrder 146 = .ok (.if_icmp .ne 31, 3) := by decide +kernel
theorem dX2_doOrder_149 : decode cX2_doOrder 149 = .ok (.aload_n 0, 1) := by decide +kernel
theorem dX2_doOrder_150 : decode cX2_doOrder 150 = .ok (.iload_n 2, 1) := by decide +kernel
theorem dX2_doOrder_151 : decode cX2_doOrder 151 = .ok (.iload_n 3, 1) := by decide +kernel
theorem dX2_doOrder_152 : decode cX2_doOrder 152 = .ok (.iload 4, 2) := by decide +kernel
theorem dX2_doOrder_154 : decode cX2_doOrder 154 = .ok (.invokevirtual 247, 3) := by decide +kernel
theorem dX2_doOrder_157 : decode cX2_doOrder 157 = .ok (.istore 7, 2) := by decide +kernel
theorem dX2_doOrder_159 : decode cX2_doOrder 159 = .ok (.aload_n 0, 1) := by decide +kernel
theorem dX2_doOrder_160 : decode cX2_doOrder 160 = .ok (.getfield 47, 3) := by decide +kernel
theorem dX2_doOrder_163 : decode cX2_doOrder 163 = .ok (.ifCond .ne 11, 3) := by decide +kernel
theorem dX2_doOrder_166 : decode cX2_doOrder 166 = .ok (.aload_n 1, 1) := by decide +kernel
theorem dX2_doOrder_167 : decode cX2_doOrder 167 = .ok (.iload 5, 2) := by decide +kernel
theorem dX2_doOrder_169 : decode cX2_doOrder 169 = .ok (.iload 7, 2) := by decide +kernel
theorem dX2_doOrder_171 : decode cX2_doOrder 171 = .ok (.invokevirtual 213, 3) := by decide +kernel
theorem dX2_doOrder_174 : decode cX2_doOrder 174 = .ok (.goto 45, 3) := by decide +kernel
theorem dX2_doOrder_177 : decode cX2_doOrder 177 = .ok (.getstatic 238, 3) := by decide +kernel
theorem dX2_doOrder_180 : decode cX2_doOrder 180 = .ok (.iload_n 2, 1) := by decide +kernel
theorem dX2_doOrder_181 : decode cX2_doOrder 181 = .ok (.iaload, 1) := by decide +kernel
theorem dX2_doOrder_182 : decode cX2_doOrder 182 = .ok (.iconst 2, 1) := by decide +kernel
theorem dX2_doOrder_183 : decode cX2_doOrder 183 = .ok (.if_icmp .ne 27, 3) := by decide +kernel
theorem dX2_doOrder_186 : decode cX2_doOrder 186 = .ok (.iload_n 2, 1) := by decide +kernel
theorem dX2_doOrder_187 : decode cX2_doOrder 187 = .ok (.iload_n 3, 1) := by decide +kernel
theorem dX2_doOrder_188 : decode cX2_doOrder 188 = .ok (.iload 4, 2) := by decide +kernel
theorem dX2_doOrder_190 : decode cX2_doOrder 190 = .ok (.invokestatic 251, 3) := by decide +kernel
theorem dX2_doOrder_193 : decode cX2_doOrder 193 = .ok (.ifCond .eq 26, 3) := by decide +kernel
theorem dX2_doOrder_196 : decode cX2_doOrder 196 = .ok (.aload_n 1, 1) := by decide +kernel
theorem dX2_doOrder_197 : decode cX2_doOrder 197 = .ok (.aload_n 0, 1) := by decide +kernel
theorem dX2_doOrder_198 : decode cX2_doOrder 198 = .ok (.getfield 50, 3) := by decide +kernel
theorem dX2_doOrder_201 : decode cX2_doOrder 201 = .ok (.iload 6, 2) := by decide +kernel
theorem dX2_doOrder_203 : decode cX2_doOrder 203 = .ok (.iadd, 1) := by decide +kernel
theorem dX2_doOrder_204 : decode cX2_doOrder 204 = .ok (.putfield 120, 3) := by decide +kernel
theorem dX2_doOrder_207 : decode cX2_doOrder 207 = .ok (.goto 12, 3) := by decide +kernel
theorem dX2_doOrder_210 : decode cX2_doOrder 210 = .ok (.aload_n 0, 1) := by decide +kernel
theorem dX2_doOrder_211 : decode cX2_doOrder 211 = .ok (.aload_n 1, 1) := by decide +kernel
theorem dX2_doOrder_212 : decode cX2_doOrder 212 = .ok (.iload_n 2, 1) := by decide +kernel
theorem dX2_doOrder_213 : decode cX2_doOrder 213 = .ok (.iload_n 3, 1) := by decide +kernel
theorem dX2_doOrder_214 : decode cX2_doOrder 214 = .ok (.iload 4, 2) := by decide +kernel
theorem dX2_doOrder_216 : decode cX2_doOrder 216 = .ok (.invokevirtual 255, 3) := by decide +kernel
theorem dX2_doOrder_219 : decode cX2_doOrder 219 = .ok (.return_, 1) := by decide +kernel
theorem dX2_doCallOrder_0 : decode cX2_doCallOrder 0 = .ok (.aload_n 0, 1) := by decide +kernel
theorem dX2_doCallOrder_1 : decode cX2_doCallOrder 1 = .ok (.aload_n 1, 1) := by decide +kernel
theorem dX2_doCallOrder_2 : decode cX2_doCallOrder 2 = .ok (.invokevirtual 234, 3) := by decide +kernel
theorem dX2_doCallOrder_5 : decode cX2_doCallOrder 5 = .ok (.istore_n 2, 1) := by decide +kernel
theorem dX2_doCallOrder_6 : decode cX2_doCallOrder 6 = .ok (.aload_n 0, 1) := by decide +kernel
theorem dX2_doCallOrder_7 : decode cX2_doCallOrder 7 = .ok (.invokevirtual 225, 3) := by decide +kernel
theorem dX2_doCallOrder_10 : decode cX2_doCallOrder 10 = .ok (.istore_n 3, 1) := by decide +kernel
theorem dX2_doCallOrder_11 : decode cX2_doCallOrder 11 = .ok (.iload_n 3, 1) := by decide +kernel
theorem dX2_doCallOrder_12 : decode cX2_doCallOrder 12 = .ok (.iconst 4, 1) := by decide +kernel
theorem dX2_doCallOrder_13 : decode cX2_doCallOrder 13 = .ok (.if_icmp .le 9, 3) := by decide +kernel
theorem dX2_doCallOrder_16 : decode cX2_doCallOrder 16 = .ok (.aload_n 0, 1) := by decide +kernel
theorem dX2_doCallOrder_17 : decode cX2_doCallOrder 17 = .ok (.bipush 6, 2) := by decide +kernel
theorem dX2_doCallOrder_19 : decode cX2_doCallOrder 19 = .ok (.invokevirtual 106, 3) := by decide +kernel
theorem dX2_doCallOrder_22 : decode cX2_doCallOrder 22 = .ok (.aload_n 0, 1) := by decide +kernel
theorem dX2_doCallOrder_23 : decode cX2_doCallOrder 23 = .ok (.getfield 47, 3) := by decide +kernel
theorem dX2_doCallOrder_26 : decode cX2_doCallOrder 26 = .ok (.ifCond .eq 4, 3) := by decide +kernel
theorem dX2_doCallOrder_29 : decode cX2_doCallOrder 29 = .ok (.return_, 1) := by decide +kernel
theorem dX2_doCallOrder_30 : decode cX2_doCallOrder 30 = .ok (.iconst 0, 1) := by decide +kernel
theorem dX2_doCallOrder_31 : decode cX2_doCallOrder 31 = .ok (.istore 4, 2) := by decide +kernel
theorem dX2_doCallOrder_33 : decode cX2_doCallOrder 33 = .ok (.iload 4, 2) := by decide +kernel
theorem dX2_doCallOrder_35 : decode cX2_doCallOrder 35 = .ok (.iload_n 3, 1) := by decide +kernel
theorem dX2_doCallOrder_36 : decode cX2_doCallOrder 36 = .ok (.if_icmp .ge 21, 3) := by decide +kernel
theorem dX2_doCallOrder_39 : decode cX2_doCallOrder 39 = .ok (.aload_n 0, 1) := by decide +kernel
theorem dX2_doCallOrder_40 : decode cX2_doCallOrder 40 = .ok (.getfield 28, 3) := by decide +kernel
theorem dX2_doCallOrder_43 : decode cX2_doCallOrder 43 = .ok (.iload 4, 2) := by decide +kernel
theorem dX2_doCallOrder_45 : decode cX2_doCallOrder 45 = .ok (.aload_n 0, 1) := by decide +kernel
theorem dX2_doCallOrder_46 : decode cX2_doCallOrder 46 = .ok (.aload_n 1, 1) := by decide +kernel
theorem dX2_doCallOrder_47 : decode cX2_doCallOrder 47 = .ok (.invokevirtual 234, 3) := by decide +kernel
theorem dX2_doCallOrder_50 : decode cX2_doCallOrder 50 = .ok (.iastore, 1) := by decide +kernel
theorem dX2_doCallOrder_51 : decode cX2_doCallOrder 51 = .ok (.iinc 4 1, 3) := by decide +kernel
theorem dX2_doCallOrder_54 : decode cX2_doCallOrder 54 = .ok (.goto (-21), 3) := by decide +kernel
theorem dX2_doCallOrder_57 : decode cX2_doCallOrder 57 = .ok (.aload_n 0, 1) := by decide +kernel
theorem dX2_doCallOrder_58 : decode cX2_doCallOrder 58 = .ok (.iload_n 3, 1) := by decide +kernel
theorem dX2_doCallOrder_59 : decode cX2_doCallOrder 59 = .ok (.putfield 31, 3) := by decide +kernel
theorem dX2_doCallOrder_62 : decode cX2_doCallOrder 62 = .ok (.aload_n 0, 1) := by decide +kernel
theorem dX2_doCallOrder_63 : decode cX2_doCallOrder 63 = .ok (.aload_n 1, 1) := by decide +kernel
theorem dX2_doCallOrder_64 : decode cX2_doCallOrder 64 = .ok (.invokevirtual 241, 3) := by decide +kernel
theorem dX2_doCallOrder_67 : decode cX2_doCallOrder 67 = .ok (.istore 4, 2) := by decide +kernel
theorem dX2_doCallOrder_69 : decode cX2_doCallOrder 69 = .ok (.aload_n 0, 1) := by decide +kernel
theorem dX2_doCallOrder_70 : decode cX2_doCallOrder 70 = .ok (.getfield 47, 3) := by decide +kernel
theorem dX2_doCallOrder_73 : decode cX2_doCallOrder 73 = .ok (.ifCond .eq 4, 3) := by decide +kernel
theorem dX2_doCallOrder_76 : decode cX2_doCallOrder 76 = .ok (.return_, 1) := by decide +kernel
theorem dX2_doCallOrder_77 : decode cX2_doCallOrder 77 = .ok (.aload_n 1, 1) := by decide +kernel
theorem dX2_doCallOrder_78 : decode cX2_doCallOrder 78 = .ok (.aload_n 0, 1) := by decide +kernel
theorem dX2_doCallOrder_79 : decode cX2_doCallOrder 79 = .ok (.getfield 50, 3) := by decide +kernel
theorem dX2_doCallOrder_82 : decode cX2_doCallOrder 82 = .ok (.putfield 120, 3) := by decide +kernel
theorem dX2_doCallOrder_85 : decode cX2_doCallOrder 85 = .ok (.aload_n 0, 1) := by decide +kernel
theorem dX2_doCallOrder_86 : decode cX2_doCallOrder 86 = .ok (.iload_n 2, 1) := by decide +kernel
theorem dX2_doCallOrder_87 : decode cX2_doCallOrder 87 = .ok (.iload 4, 2) := by decide +kernel
theorem dX2_doCallOrder_89 : decode cX2_doCallOrder 89 = .ok (.invokevirtual 178, 3) := by decide +kernel
theorem dX2_doCallOrder_92 : decode cX2_doCallOrder 92 = .ok (.return_, 1) := by decide +kernel
theorem dX2_valueFor_0 : decode cX2_valueFor 0 = .ok (.iload_n 1, 1) := by decide +kernel
theorem dX2_valueFor_1 : decode cX2_valueFor 1 = .ok (.tableswitch 69 7 14 #[47, 49, 53, 69, 69, 69, 57, 63], 47) := by decide +kernel
theorem dX2_valueFor_48 : decode cX2_valueFor 48 = .ok (.iload_n 2, 1) := by decide +kernel
theorem dX2_valueFor_49 : decode cX2_valueFor 49 = .ok (.ireturn, 1) := by decide +kernel
theorem dX2_valueFor_50 : decode cX2_valueFor 50 = .ok (.iload_n 2, 1) := by decide +kernel
theorem dX2_valueFor_51 : decode cX2_valueFor 51 = .ok (.iload_n 3, 1) := by decide +kernel
theorem dX2_valueFor_52 : decode cX2_valueFor 52 = .ok (.iadd, 1) := by decide +kernel
theorem dX2_valueFor_53 : decode cX2_valueFor 53 = .ok (.ireturn, 1) := by decide +kernel
theorem dX2_valueFor_54 : decode cX2_valueFor 54 = .ok (.iload_n 2, 1) := by decide +kernel
theorem dX2_valueFor_55 : decode cX2_valueFor 55 = .ok (.iload_n 3, 1) := by decide +kernel
theorem dX2_valueFor_56 : decode cX2_valueFor 56 = .ok (.isub, 1) := by decide +kernel
theorem dX2_valueFor_57 : decode cX2_valueFor 57 = .ok (.ireturn, 1) := by decide +kernel
theorem dX2_valueFor_58 : decode cX2_valueFor 58 = .ok (.aload_n 0, 1) := by decide +kernel
theorem dX2_valueFor_59 : decode cX2_valueFor 59 = .ok (.iload_n 2, 1) := by decide +kernel
theorem dX2_valueFor_60 : decode cX2_valueFor 60 = .ok (.invokevirtual 123, 3) := by decide +kernel
theorem dX2_valueFor_63 : decode cX2_valueFor 63 = .ok (.ireturn, 1) := by decide +kernel
theorem dX2_valueFor_64 : decode cX2_valueFor 64 = .ok (.aload_n 0, 1) := by decide +kernel
theorem dX2_valueFor_65 : decode cX2_valueFor 65 = .ok (.iload_n 2, 1) := by decide +kernel
theorem dX2_valueFor_66 : decode cX2_valueFor 66 = .ok (.invokevirtual 129, 3) := by decide +kernel
theorem dX2_valueFor_69 : decode cX2_valueFor 69 = .ok (.ireturn, 1) := by decide +kernel
theorem dX2_valueFor_70 : decode cX2_valueFor 70 = .ok (.aload_n 0, 1) := by decide +kernel
theorem dX2_valueFor_71 : decode cX2_valueFor 71 = .ok (.getfield 57, 3) := by decide +kernel
theorem dX2_valueFor_74 : decode cX2_valueFor 74 = .ok (.getfield 147, 3) := by decide +kernel
theorem dX2_valueFor_77 : decode cX2_valueFor 77 = .ok (.ireturn, 1) := by decide +kernel
theorem dX2_goesThere_0 : decode cX2_goesThere 0 = .ok (.iload_n 0, 1) := by decide +kernel
theorem dX2_goesThere_1 : decode cX2_goesThere 1 = .ok (.lookupswitch 47 #[(10, 27), (11, 37)], 27) := by decide +kernel
theorem dX2_goesThere_28 : decode cX2_goesThere 28 = .ok (.iload_n 1, 1) := by decide +kernel
theorem dX2_goesThere_29 : decode cX2_goesThere 29 = .ok (.ifCond .ne 7, 3) := by decide +kernel
theorem dX2_goesThere_32 : decode cX2_goesThere 32 = .ok (.iconst 1, 1) := by decide +kernel
theorem dX2_goesThere_33 : decode cX2_goesThere 33 = .ok (.goto 4, 3) := by decide +kernel
theorem dX2_goesThere_36 : decode cX2_goesThere 36 = .ok (.iconst 0, 1) := by decide +kernel
theorem dX2_goesThere_37 : decode cX2_goesThere 37 = .ok (.ireturn, 1) := by decide +kernel
theorem dX2_goesThere_38 : decode cX2_goesThere 38 = .ok (.iload_n 1, 1) := by decide +kernel
theorem dX2_goesThere_39 : decode cX2_goesThere 39 = .ok (.ifCond .eq 7, 3) := by decide +kernel
theorem dX2_goesThere_42 : decode cX2_goesThere 42 = .ok (.iconst 1, 1) := by decide +kernel
theorem dX2_goesThere_43 : decode cX2_goesThere 43 = .ok (.goto 4, 3) := by decide +kernel
theorem dX2_goesThere_46 : decode cX2_goesThere 46 = .ok (.iconst 0, 1) := by decide +kernel
theorem dX2_goesThere_47 : decode cX2_goesThere 47 = .ok (.ireturn, 1) := by decide +kernel
theorem dX2_goesThere_48 : decode cX2_goesThere 48 = .ok (.iload_n 1, 1) := by decide +kernel
theorem dX2_goesThere_49 : decode cX2_goesThere 49 = .ok (.iload_n 2, 1) := by decide +kernel
theorem dX2_goesThere_50 : decode cX2_goesThere 50 = .ok (.if_icmp .ge 7, 3) := by decide +kernel
theorem dX2_goesThere_53 : decode cX2_goesThere 53 = .ok (.iconst 1, 1) := by decide +kernel
theorem dX2_goesThere_54 : decode cX2_goesThere 54 = .ok (.goto 4, 3) := by decide +kernel
theorem dX2_goesThere_57 : decode cX2_goesThere 57 = .ok (.iconst 0, 1) := by decide +kernel
theorem dX2_goesThere_58 : decode cX2_goesThere 58 = .ok (.ireturn, 1) := by decide +kernel
theorem dX2_act_0 : decode cX2_act 0 = .ok (.iload_n 2, 1) := by decide +kernel
theorem dX2_act_1 : decode cX2_act 1 = .ok (.tableswitch 144 0 15 #[79, 88, 96, 104, 113, 123, 144, 144, 144, 144, 144, 144, 144, 144, 144, 134], 79) := by decide +kernel
theorem dX2_act_80 : decode cX2_act 80 = .ok (.aload_n 0, 1) := by decide +kernel
theorem dX2_act_81 : decode cX2_act 81 = .ok (.aload_n 1, 1) := by decide +kernel
theorem dX2_act_82 : decode cX2_act 82 = .ok (.iload_n 3, 1) := by decide +kernel
theorem dX2_act_83 : decode cX2_act 83 = .ok (.invokevirtual 259, 3) := by decide +kernel
theorem dX2_act_86 : decode cX2_act 86 = .ok (.goto 64, 3) := by decide +kernel
theorem dX2_act_89 : decode cX2_act 89 = .ok (.aload_n 0, 1) := by decide +kernel
theorem dX2_act_90 : decode cX2_act 90 = .ok (.iload_n 3, 1) := by decide +kernel
theorem dX2_act_91 : decode cX2_act 91 = .ok (.invokevirtual 126, 3) := by decide +kernel
theorem dX2_act_94 : decode cX2_act 94 = .ok (.goto 56, 3) := by decide +kernel
theorem dX2_act_97 : decode cX2_act 97 = .ok (.aload_n 0, 1) := by decide +kernel
theorem dX2_act_98 : decode cX2_act 98 = .ok (.iload_n 3, 1) := by decide +kernel
theorem dX2_act_99 : decode cX2_act 99 = .ok (.invokevirtual 181, 3) := by decide +kernel
theorem dX2_act_102 : decode cX2_act 102 = .ok (.goto 48, 3) := by decide +kernel
theorem dX2_act_105 : decode cX2_act 105 = .ok (.aload_n 0, 1) := by decide +kernel
theorem dX2_act_106 : decode cX2_act 106 = .ok (.iconst 4, 1) := by decide +kernel
theorem dX2_act_107 : decode cX2_act 107 = .ok (.iload_n 3, 1) := by decide +kernel
theorem dX2_act_108 : decode cX2_act 108 = .ok (.invokevirtual 169, 3) := by decide +kernel
theorem dX2_act_111 : decode cX2_act 111 = .ok (.goto 39, 3) := by decide +kernel
theorem dX2_act_114 : decode cX2_act 114 = .ok (.aload_n 0, 1) := by decide +kernel
theorem dX2_act_115 : decode cX2_act 115 = .ok (.iload_n 3, 1) := by decide +kernel
theorem dX2_act_116 : decode cX2_act 116 = .ok (.iload 4, 2) := by decide +kernel
theorem dX2_act_118 : decode cX2_act 118 = .ok (.invokevirtual 262, 3) := by decide +kernel
theorem dX2_act_121 : decode cX2_act 121 = .ok (.goto 29, 3) := by decide +kernel
theorem dX2_act_124 : decode cX2_act 124 = .ok (.aload_n 0, 1) := by decide +kernel
theorem dX2_act_125 : decode cX2_act 125 = .ok (.getfield 57, 3) := by decide +kernel
theorem dX2_act_128 : decode cX2_act 128 = .ok (.iload_n 3, 1) := by decide +kernel
theorem dX2_act_129 : decode cX2_act 129 = .ok (.invokevirtual 265, 3) := by decide +kernel
theorem dX2_act_132 : decode cX2_act 132 = .ok (.goto 18, 3) := by decide +kernel
theorem dX2_act_135 : decode cX2_act 135 = .ok (.aload_n 0, 1) := by decide +kernel
theorem dX2_act_136 : decode cX2_act 136 = .ok (.iload_n 3, 1) := by decide +kernel
theorem dX2_act_137 : decode cX2_act 137 = .ok (.iload 4, 2) := by decide +kernel
theorem dX2_act_139 : decode cX2_act 139 = .ok (.invokevirtual 268, 3) := by decide +kernel
theorem dX2_act_142 : decode cX2_act 142 = .ok (.goto 8, 3) := by decide +kernel
theorem dX2_act_145 : decode cX2_act 145 = .ok (.aload_n 0, 1) := by decide +kernel
theorem dX2_act_146 : decode cX2_act 146 = .ok (.iconst 0, 1) := by decide +kernel
theorem dX2_act_147 : decode cX2_act 147 = .ok (.putfield 35, 3) := by decide +kernel
theorem dX2_act_150 : decode cX2_act 150 = .ok (.return_, 1) := by decide +kernel
theorem dX2_endFunction_0 : decode cX2_endFunction 0 = .ok (.aload_n 0, 1) := by decide +kernel
theorem dX2_endFunction_1 : decode cX2_endFunction 1 = .ok (.getfield 12, 3) := by decide +kernel
theorem dX2_endFunction_4 : decode cX2_endFunction 4 = .ok (.iload_n 2, 1) := by decide +kernel
theorem dX2_endFunction_5 : decode cX2_endFunction 5 = .ok (.putfield 271, 3) := by decide +kernel
theorem dX2_endFunction_8 : decode cX2_endFunction 8 = .ok (.aload_n 0, 1) := by decide +kernel
theorem dX2_endFunction_9 : decode cX2_endFunction 9 = .ok (.dup, 1) := by decide +kernel
theorem dX2_endFunction_10 : decode cX2_endFunction 10 = .ok (.getfield 35, 3) := by decide +kernel
theorem dX2_endFunction_13 : decode cX2_endFunction 13 = .ok (.iconst 1, 1) := by decide +kernel
theorem dX2_endFunction_14 : decode cX2_endFunction 14 = .ok (.isub, 1) := by decide +kernel
theorem dX2_endFunction_15 : decode cX2_endFunction 15 = .ok (.putfield 35, 3) := by decide +kernel
theorem dX2_endFunction_18 : decode cX2_endFunction 18 = .ok (.aload_n 0, 1) := by decide +kernel
theorem dX2_endFunction_19 : decode cX2_endFunction 19 = .ok (.getfield 35, 3) := by decide +kernel
theorem dX2_endFunction_22 : decode cX2_endFunction 22 = .ok (.ifCond .le 22, 3) := by decide +kernel
theorem dX2_endFunction_25 : decode cX2_endFunction 25 = .ok (.aload_n 0, 1) := by decide +kernel
theorem dX2_endFunction_26 : decode cX2_endFunction 26 = .ok (.getfield 20, 3) := by decide +kernel
theorem dX2_endFunction_29 : decode cX2_endFunction 29 = .ok (.aload_n 0, 1) := by decide +kernel
theorem dX2_endFunction_30 : decode cX2_endFunction 30 = .ok (.getfield 35, 3) := by decide +kernel
theorem dX2_endFunction_33 : decode cX2_endFunction 33 = .ok (.iconst 1, 1) := by decide +kernel
theorem dX2_endFunction_34 : decode cX2_endFunction 34 = .ok (.isub, 1) := by decide +kernel
theorem dX2_endFunction_35 : decode cX2_endFunction 35 = .ok (.aaload, 1) := by decide +kernel
theorem dX2_endFunction_36 : decode cX2_endFunction 36 = .ok (.aload_n 1, 1) := by decide +kernel
theorem dX2_endFunction_37 : decode cX2_endFunction 37 = .ok (.getfield 197, 3) := by decide +kernel
theorem dX2_endFunction_40 : decode cX2_endFunction 40 = .ok (.iload_n 2, 1) := by decide +kernel
theorem dX2_endFunction_41 : decode cX2_endFunction 41 = .ok (.invokevirtual 213, 3) := by decide +kernel
theorem dX2_endFunction_44 : decode cX2_endFunction 44 = .ok (.return_, 1) := by decide +kernel
theorem dX2_writeByte_0 : decode cX2_writeByte 0 = .ok (.iload_n 1, 1) := by decide +kernel
theorem dX2_writeByte_1 : decode cX2_writeByte 1 = .ok (.aload_n 0, 1) := by decide +kernel
theorem dX2_writeByte_2 : decode cX2_writeByte 2 = .ok (.getfield 53, 3) := by decide +kernel
theorem dX2_writeByte_5 : decode cX2_writeByte 5 = .ok (.getfield 274, 3) := by decide +kernel
theorem dX2_writeByte_8 : decode cX2_writeByte 8 = .ok (.if_icmp .lt 14, 3) := by decide +kernel
theorem dX2_writeByte_11 : decode cX2_writeByte 11 = .ok (.aload_n 0, 1) := by decide +kernel
theorem dX2_writeByte_12 : decode cX2_writeByte 12 = .ok (.getfield 53, 3) := by decide +kernel
theorem dX2_writeByte_15 : decode cX2_writeByte 15 = .ok (.iload_n 1, 1) := by decide +kernel
theorem dX2_writeByte_16 : decode cX2_writeByte 16 = .ok (.invokevirtual 101, 3) := by decide +kernel
theorem dX2_writeByte_19 : decode cX2_writeByte 19 = .ok (.ifCond .ne 10, 3) := by decide +kernel
theorem dX2_writeByte_22 : decode cX2_writeByte 22 = .ok (.aload_n 0, 1) := by decide +kernel
theorem dX2_writeByte_23 : decode cX2_writeByte 23 = .ok (.bipush 7, 2) := by decide +kernel
theorem dX2_writeByte_25 : decode cX2_writeByte 25 = .ok (.invokevirtual 106, 3) := by decide +kernel
theorem dX2_writeByte_28 : decode cX2_writeByte 28 = .ok (.return_, 1) := by decide +kernel
theorem dX2_writeByte_29 : decode cX2_writeByte 29 = .ok (.aload_n 0, 1) := by decide +kernel
theorem dX2_writeByte_30 : decode cX2_writeByte 30 = .ok (.getfield 53, 3) := by decide +kernel
theorem dX2_writeByte_33 : decode cX2_writeByte 33 = .ok (.iload_n 1, 1) := by decide +kernel
theorem dX2_writeByte_34 : decode cX2_writeByte 34 = .ok (.iload_n 2, 1) := by decide +kernel
theorem dX2_writeByte_35 : decode cX2_writeByte 35 = .ok (.invokevirtual 277, 3) := by decide +kernel
theorem dX2_writeByte_38 : decode cX2_writeByte 38 = .ok (.return_, 1) := by decide +kernel
theorem dX2_nextByte_0 : decode cX2_nextByte 0 = .ok (.aload_n 0, 1) := by decide +kernel
theorem dX2_nextByte_1 : decode cX2_nextByte 1 = .ok (.aload_n 0, 1) := by decide +kernel
theorem dX2_nextByte_2 : decode cX2_nextByte 2 = .ok (.getfield 50, 3) := by decide +kernel
theorem dX2_nextByte_5 : decode cX2_nextByte 5 = .ok (.invokevirtual 123, 3) := by decide +kernel
theorem dX2_nextByte_8 : decode cX2_nextByte 8 = .ok (.istore_n 1, 1) := by decide +kernel
theorem dX2_nextByte_9 : decode cX2_nextByte 9 = .ok (.aload_n 0, 1) := by decide +kernel
theorem dX2_nextByte_10 : decode cX2_nextByte 10 = .ok (.dup, 1) := by decide +kernel
theorem dX2_nextByte_11 : decode cX2_nextByte 11 = .ok (.getfield 50, 3) := by decide +kernel
theorem dX2_nextByte_14 : decode cX2_nextByte 14 = .ok (.iconst 1, 1) := by decide +kernel
theorem dX2_nextByte_15 : decode cX2_nextByte 15 = .ok (.iadd, 1) := by decide +kernel
theorem dX2_nextByte_16 : decode cX2_nextByte 16 = .ok (.putfield 50, 3) := by decide +kernel
theorem dX2_nextByte_19 : decode cX2_nextByte 19 = .ok (.iload_n 1, 1) := by decide +kernel
theorem dX2_nextByte_20 : decode cX2_nextByte 20 = .ok (.ireturn, 1) := by decide +kernel
theorem dX2_nextFour_0 : decode cX2_nextFour 0 = .ok (.aload_n 0, 1) := by decide +kernel
theorem dX2_nextFour_1 : decode cX2_nextFour 1 = .ok (.aload_n 0, 1) := by decide +kernel
theorem dX2_nextFour_2 : decode cX2_nextFour 2 = .ok (.getfield 50, 3) := by decide +kernel
theorem dX2_nextFour_5 : decode cX2_nextFour 5 = .ok (.invokevirtual 129, 3) := by decide +kernel
theorem dX2_nextFour_8 : decode cX2_nextFour 8 = .ok (.istore_n 1, 1) := by decide +kernel
theorem dX2_nextFour_9 : decode cX2_nextFour 9 = .ok (.aload_n 0, 1) := by decide +kernel
theorem dX2_nextFour_10 : decode cX2_nextFour 10 = .ok (.dup, 1) := by decide +kernel
theorem dX2_nextFour_11 : decode cX2_nextFour 11 = .ok (.getfield 50, 3) := by decide +kernel
theorem dX2_nextFour_14 : decode cX2_nextFour 14 = .ok (.iconst 4, 1) := by decide +kernel
theorem dX2_nextFour_15 : decode cX2_nextFour 15 = .ok (.iadd, 1) := by decide +kernel
theorem dX2_nextFour_16 : decode cX2_nextFour 16 = .ok (.putfield 50, 3) := by decide +kernel
theorem dX2_nextFour_19 : decode cX2_nextFour 19 = .ok (.iload_n 1, 1) := by decide +kernel
theorem dX2_nextFour_20 : decode cX2_nextFour 20 = .ok (.ireturn, 1) := by decide +kernel
theorem dX2_nextDistance_0 : decode cX2_nextDistance 0 = .ok (.aload_n 0, 1) := by decide +kernel
theorem dX2_nextDistance_1 : decode cX2_nextDistance 1 = .ok (.invokevirtual 225, 3) := by decide +kernel
theorem dX2_nextDistance_4 : decode cX2_nextDistance 4 = .ok (.i2b, 1) := by decide +kernel
theorem dX2_nextDistance_5 : decode cX2_nextDistance 5 = .ok (.istore_n 1, 1) := by decide +kernel
theorem dX2_nextDistance_6 : decode cX2_nextDistance 6 = .ok (.iload_n 1, 1) := by decide +kernel
theorem dX2_nextDistance_7 : decode cX2_nextDistance 7 = .ok (.sipush 256, 3) := by decide +kernel
theorem dX2_nextDistance_10 : decode cX2_nextDistance 10 = .ok (.imul, 1) := by decide +kernel
theorem dX2_nextDistance_11 : decode cX2_nextDistance 11 = .ok (.aload_n 0, 1) := by decide +kernel
theorem dX2_nextDistance_12 : decode cX2_nextDistance 12 = .ok (.invokevirtual 225, 3) := by decide +kernel
theorem dX2_nextDistance_15 : decode cX2_nextDistance 15 = .ok (.iadd, 1) := by decide +kernel
theorem dX2_nextDistance_16 : decode cX2_nextDistance 16 = .ok (.ireturn, 1) := by decide +kernel
theorem dX2_nextValue_0 : decode cX2_nextValue 0 = .ok (.aload_n 0, 1) := by decide +kernel
theorem dX2_nextValue_1 : decode cX2_nextValue 1 = .ok (.invokevirtual 225, 3) := by decide +kernel
theorem dX2_nextValue_4 : decode cX2_nextValue 4 = .ok (.tableswitch 55 0 3 #[32, 34, 40, 45], 32) := by decide +kernel
theorem dX2_nextValue_36 : decode cX2_nextValue 36 = .ok (.iconst 0, 1) := by decide +kernel
theorem dX2_nextValue_37 : decode cX2_nextValue 37 = .ok (.ireturn, 1) := by decide +kernel
theorem dX2_nextValue_38 : decode cX2_nextValue 38 = .ok (.aload_n 0, 1) := by decide +kernel
theorem dX2_nextValue_39 : decode cX2_nextValue 39 = .ok (.invokevirtual 225, 3) := by decide +kernel
theorem dX2_nextValue_42 : decode cX2_nextValue 42 = .ok (.i2b, 1) := by decide +kernel
theorem dX2_nextValue_43 : decode cX2_nextValue 43 = .ok (.ireturn, 1) := by decide +kernel
theorem dX2_nextValue_44 : decode cX2_nextValue 44 = .ok (.aload_n 0, 1) := by decide +kernel
theorem dX2_nextValue_45 : decode cX2_nextValue 45 = .ok (.invokevirtual 280, 3) := by decide +kernel
theorem dX2_nextValue_48 : decode cX2_nextValue 48 = .ok (.ireturn, 1) := by decide +kernel
theorem dX2_nextValue_49 : decode cX2_nextValue 49 = .ok (.aload_n 0, 1) := by decide +kernel
theorem dX2_nextValue_50 : decode cX2_nextValue 50 = .ok (.aload_n 1, 1) := by decide +kernel
theorem dX2_nextValue_51 : decode cX2_nextValue 51 = .ok (.aload_n 0, 1) := by decide +kernel
theorem dX2_nextValue_52 : decode cX2_nextValue 52 = .ok (.invokevirtual 225, 3) := by decide +kernel
theorem dX2_nextValue_55 : decode cX2_nextValue 55 = .ok (.invokevirtual 283, 3) := by decide +kernel
theorem dX2_nextValue_58 : decode cX2_nextValue 58 = .ok (.ireturn, 1) := by decide +kernel
theorem dX2_nextValue_59 : decode cX2_nextValue 59 = .ok (.aload_n 0, 1) := by decide +kernel
theorem dX2_nextValue_60 : decode cX2_nextValue 60 = .ok (.bipush 6, 2) := by decide +kernel
theorem dX2_nextValue_62 : decode cX2_nextValue 62 = .ok (.invokevirtual 106, 3) := by decide +kernel
theorem dX2_nextValue_65 : decode cX2_nextValue 65 = .ok (.iconst 0, 1) := by decide +kernel
theorem dX2_nextValue_66 : decode cX2_nextValue 66 = .ok (.ireturn, 1) := by decide +kernel
theorem dX2_localOf_0 : decode cX2_localOf 0 = .ok (.aload_n 1, 1) := by decide +kernel
theorem dX2_localOf_1 : decode cX2_localOf 1 = .ok (.iload_n 2, 1) := by decide +kernel
theorem dX2_localOf_2 : decode cX2_localOf 2 = .ok (.invokevirtual 287, 3) := by decide +kernel
theorem dX2_localOf_5 : decode cX2_localOf 5 = .ok (.ifCond .ne 11, 3) := by decide +kernel
theorem dX2_localOf_8 : decode cX2_localOf 8 = .ok (.aload_n 0, 1) := by decide +kernel
theorem dX2_localOf_9 : decode cX2_localOf 9 = .ok (.bipush 6, 2) := by decide +kernel
theorem dX2_localOf_11 : decode cX2_localOf 11 = .ok (.invokevirtual 106, 3) := by decide +kernel
theorem dX2_localOf_14 : decode cX2_localOf 14 = .ok (.iconst 0, 1) := by decide +kernel
theorem dX2_localOf_15 : decode cX2_localOf 15 = .ok (.ireturn, 1) := by decide +kernel
theorem dX2_localOf_16 : decode cX2_localOf 16 = .ok (.aload_n 1, 1) := by decide +kernel
theorem dX2_localOf_17 : decode cX2_localOf 17 = .ok (.getfield 204, 3) := by decide +kernel
theorem dX2_localOf_20 : decode cX2_localOf 20 = .ok (.iload_n 2, 1) := by decide +kernel
theorem dX2_localOf_21 : decode cX2_localOf 21 = .ok (.iaload, 1) := by decide +kernel
theorem dX2_localOf_22 : decode cX2_localOf 22 = .ok (.ireturn, 1) := by decide +kernel
theorem dX2_nextTarget_0 : decode cX2_nextTarget 0 = .ok (.aload_n 0, 1) := by decide +kernel
theorem dX2_nextTarget_1 : decode cX2_nextTarget 1 = .ok (.invokevirtual 225, 3) := by decide +kernel
theorem dX2_nextTarget_4 : decode cX2_nextTarget 4 = .ok (.istore_n 2, 1) := by decide +kernel
theorem dX2_nextTarget_5 : decode cX2_nextTarget 5 = .ok (.iload_n 2, 1) := by decide +kernel
theorem dX2_nextTarget_6 : decode cX2_nextTarget 6 = .ok (.sipush 255, 3) := by decide +kernel
theorem dX2_nextTarget_9 : decode cX2_nextTarget 9 = .ok (.if_icmp .eq 17, 3) := by decide +kernel
theorem dX2_nextTarget_12 : decode cX2_nextTarget 12 = .ok (.aload_n 1, 1) := by decide +kernel
theorem dX2_nextTarget_13 : decode cX2_nextTarget 13 = .ok (.iload_n 2, 1) := by decide +kernel
theorem dX2_nextTarget_14 : decode cX2_nextTarget 14 = .ok (.invokevirtual 287, 3) := by decide +kernel
theorem dX2_nextTarget_17 : decode cX2_nextTarget 17 = .ok (.ifCond .ne 9, 3) := by decide +kernel
theorem dX2_nextTarget_20 : decode cX2_nextTarget 20 = .ok (.aload_n 0, 1) := by decide +kernel
theorem dX2_nextTarget_21 : decode cX2_nextTarget 21 = .ok (.bipush 6, 2) := by decide +kernel
theorem dX2_nextTarget_23 : decode cX2_nextTarget 23 = .ok (.invokevirtual 106, 3) := by decide +kernel
theorem dX2_nextTarget_26 : decode cX2_nextTarget 26 = .ok (.iload_n 2, 1) := by decide +kernel
theorem dX2_nextTarget_27 : decode cX2_nextTarget 27 = .ok (.ireturn, 1) := by decide +kernel
theorem dX3_init_0 : decode cX3_init 0 = .ok (.aload_n 0, 1) := by decide +kernel
theorem dX3_init_1 : decode cX3_init 1 = .ok (.invokespecial 1, 3) := by decide +kernel
theorem dX3_init_4 : decode cX3_init 4 = .ok (.aload_n 0, 1) := by decide +kernel
theorem dX3_init_5 : decode cX3_init 5 = .ok (.sipush 4096, 3) := by decide +kernel
theorem dX3_init_8 : decode cX3_init 8 = .ok (.newarray .byte, 2) := by decide +kernel
theorem dX3_init_10 : decode cX3_init 10 = .ok (.putfield 9, 3) := by decide +kernel
theorem dX3_init_13 : decode cX3_init 13 = .ok (.aload_n 0, 1) := by decide +kernel
theorem dX3_init_14 : decode cX3_init 14 = .ok (.iconst 0, 1) := by decide +kernel
theorem dX3_init_15 : decode cX3_init 15 = .ok (.putfield 13, 3) := by decide +kernel
theorem dX3_init_18 : decode cX3_init 18 = .ok (.return_, 1) := by decide +kernel
theorem dX3_has_0 : decode cX3_has 0 = .ok (.iload_n 1, 1) := by decide +kernel
theorem dX3_has_1 : decode cX3_has 1 = .ok (.ifCond .lt 14, 3) := by decide +kernel
theorem dX3_has_4 : decode cX3_has 4 = .ok (.iload_n 1, 1) := by decide +kernel
theorem dX3_has_5 : decode cX3_has 5 = .ok (.sipush 4096, 3) := by decide +kernel
theorem dX3_has_8 : decode cX3_has 8 = .ok (.if_icmp .ge 7, 3) := by decide +kernel
theorem dX3_has_11 : decode cX3_has 11 = .ok (.iconst 1, 1) := by decide +kernel
theorem dX3_has_12 : decode cX3_has 12 = .ok (.goto 4, 3) := by decide +kernel
theorem dX3_has_15 : decode cX3_has 15 = .ok (.iconst 0, 1) := by decide +kernel
theorem dX3_has_16 : decode cX3_has 16 = .ok (.ireturn, 1) := by decide +kernel
theorem dX3_hasFour_0 : decode cX3_hasFour 0 = .ok (.iload_n 1, 1) := by decide +kernel
theorem dX3_hasFour_1 : decode cX3_hasFour 1 = .ok (.ifCond .lt 14, 3) := by decide +kernel
theorem dX3_hasFour_4 : decode cX3_hasFour 4 = .ok (.iload_n 1, 1) := by decide +kernel
theorem dX3_hasFour_5 : decode cX3_hasFour 5 = .ok (.sipush 4092, 3) := by decide +kernel
theorem dX3_hasFour_8 : decode cX3_hasFour 8 = .ok (.if_icmp .gt 7, 3) := by decide +kernel
theorem dX3_hasFour_11 : decode cX3_hasFour 11 = .ok (.iconst 1, 1) := by decide +kernel
theorem dX3_hasFour_12 : decode cX3_hasFour 12 = .ok (.goto 4, 3) := by decide +kernel
theorem dX3_hasFour_15 : decode cX3_hasFour 15 = .ok (.iconst 0, 1) := by decide +kernel
theorem dX3_hasFour_16 : decode cX3_hasFour 16 = .ok (.ireturn, 1) := by decide +kernel
theorem dX3_byteOf_0 : decode cX3_byteOf 0 = .ok (.iload_n 1, 1) := by decide +kernel
theorem dX3_byteOf_1 : decode cX3_byteOf 1 = .ok (.ifCond .lt 23, 3) := by decide +kernel
theorem dX3_byteOf_4 : decode cX3_byteOf 4 = .ok (.iload_n 1, 1) := by decide +kernel
theorem dX3_byteOf_5 : decode cX3_byteOf 5 = .ok (.sipush 4096, 3) := by decide +kernel
theorem dX3_byteOf_8 : decode cX3_byteOf 8 = .ok (.if_icmp .ge 16, 3) := by decide +kernel
theorem dX3_byteOf_11 : decode cX3_byteOf 11 = .ok (.aload_n 0, 1) := by decide +kernel
theorem dX3_byteOf_12 : decode cX3_byteOf 12 = .ok (.getfield 9, 3) := by decide +kernel
theorem dX3_byteOf_15 : decode cX3_byteOf 15 = .ok (.iload_n 1, 1) := by decide +kernel
theorem dX3_byteOf_16 : decode cX3_byteOf 16 = .ok (.baload, 1) := by decide +kernel
theorem dX3_byteOf_17 : decode cX3_byteOf 17 = .ok (.sipush 255, 3) := by decide +kernel
theorem dX3_byteOf_20 : decode cX3_byteOf 20 = .ok (.iand, 1) := by decide +kernel
theorem dX3_byteOf_21 : decode cX3_byteOf 21 = .ok (.goto 4, 3) := by decide +kernel
theorem dX3_byteOf_24 : decode cX3_byteOf 24 = .ok (.iconst 0, 1) := by decide +kernel
theorem dX3_byteOf_25 : decode cX3_byteOf 25 = .ok (.ireturn, 1) := by decide +kernel
theorem dX3_fourOf_0 : decode cX3_fourOf 0 = .ok (.iload_n 1, 1) := by decide +kernel
theorem dX3_fourOf_1 : decode cX3_fourOf 1 = .ok (.ifCond .lt 10, 3) := by decide +kernel
theorem dX3_fourOf_4 : decode cX3_fourOf 4 = .ok (.iload_n 1, 1) := by decide +kernel
theorem dX3_fourOf_5 : decode cX3_fourOf 5 = .ok (.sipush 4092, 3) := by decide +kernel
theorem dX3_fourOf_8 : decode cX3_fourOf 8 = .ok (.if_icmp .le 5, 3) := by decide +kernel
theorem dX3_fourOf_11 : decode cX3_fourOf 11 = .ok (.iconst 0, 1) := by decide +kernel
theorem dX3_fourOf_12 : decode cX3_fourOf 12 = .ok (.ireturn, 1) := by decide +kernel
theorem dX3_fourOf_13 : decode cX3_fourOf 13 = .ok (.aload_n 0, 1) := by decide +kernel
theorem dX3_fourOf_14 : decode cX3_fourOf 14 = .ok (.getfield 9, 3) := by decide +kernel
theorem dX3_fourOf_17 : decode cX3_fourOf 17 = .ok (.iload_n 1, 1) := by decide +kernel
theorem dX3_fourOf_18 : decode cX3_fourOf 18 = .ok (.baload, 1) := by decide +kernel
theorem dX3_fourOf_19 : decode cX3_fourOf 19 = .ok (.sipush 255, 3) := by decide +kernel
theorem dX3_fourOf_22 : decode cX3_fourOf 22 = .ok (.iand, 1) := by decide +kernel
theorem dX3_fourOf_23 : decode cX3_fourOf 23 = .ok (.bipush 24, 2) := by decide +kernel
theorem dX3_fourOf_25 : decode cX3_fourOf 25 = .ok (.ishl, 1) := by decide +kernel
theorem dX3_fourOf_26 : decode cX3_fourOf 26 = .ok (.aload_n 0, 1) := by decide +kernel
theorem dX3_fourOf_27 : decode cX3_fourOf 27 = .ok (.getfield 9, 3) := by decide +kernel
theorem dX3_fourOf_30 : decode cX3_fourOf 30 = .ok (.iload_n 1, 1) := by decide +kernel
theorem dX3_fourOf_31 : decode cX3_fourOf 31 = .ok (.iconst 1, 1) := by decide +kernel
theorem dX3_fourOf_32 : decode cX3_fourOf 32 = .ok (.iadd, 1) := by decide +kernel
theorem dX3_fourOf_33 : decode cX3_fourOf 33 = .ok (.baload, 1) := by decide +kernel
theorem dX3_fourOf_34 : decode cX3_fourOf 34 = .ok (.sipush 255, 3) := by decide +kernel
theorem dX3_fourOf_37 : decode cX3_fourOf 37 = .ok (.iand, 1) := by decide +kernel
theorem dX3_fourOf_38 : decode cX3_fourOf 38 = .ok (.bipush 16, 2) := by decide +kernel
theorem dX3_fourOf_40 : decode cX3_fourOf 40 = .ok (.ishl, 1) := by decide +kernel
theorem dX3_fourOf_41 : decode cX3_fourOf 41 = .ok (.ior, 1) := by decide +kernel
theorem dX3_fourOf_42 : decode cX3_fourOf 42 = .ok (.aload_n 0, 1) := by decide +kernel
theorem dX3_fourOf_43 : decode cX3_fourOf 43 = .ok (.getfield 9, 3) := by decide +kernel
theorem dX3_fourOf_46 : decode cX3_fourOf 46 = .ok (.iload_n 1, 1) := by decide +kernel
theorem dX3_fourOf_47 : decode cX3_fourOf 47 = .ok (.iconst 2, 1) := by decide +kernel
theorem dX3_fourOf_48 : decode cX3_fourOf 48 = .ok (.iadd, 1) := by decide +kernel
theorem dX3_fourOf_49 : decode cX3_fourOf 49 = .ok (.baload, 1) := by decide +kernel
theorem dX3_fourOf_50 : decode cX3_fourOf 50 = .ok (.sipush 255, 3) := by decide +kernel
theorem dX3_fourOf_53 : decode cX3_fourOf 53 = .ok (.iand, 1) := by decide +kernel
theorem dX3_fourOf_54 : decode cX3_fourOf 54 = .ok (.bipush 8, 2) := by decide +kernel
theorem dX3_fourOf_56 : decode cX3_fourOf 56 = .ok (.ishl, 1) := by decide +kernel
theorem dX3_fourOf_57 : decode cX3_fourOf 57 = .ok (.ior, 1) := by decide +kernel
theorem dX3_fourOf_58 : decode cX3_fourOf 58 = .ok (.aload_n 0, 1) := by decide +kernel
theorem dX3_fourOf_59 : decode cX3_fourOf 59 = .ok (.getfield 9, 3) := by decide +kernel
theorem dX3_fourOf_62 : decode cX3_fourOf 62 = .ok (.iload_n 1, 1) := by decide +kernel
theorem dX3_fourOf_63 : decode cX3_fourOf 63 = .ok (.iconst 3, 1) := by decide +kernel
theorem dX3_fourOf_64 : decode cX3_fourOf 64 = .ok (.iadd, 1) := by decide +kernel
theorem dX3_fourOf_65 : decode cX3_fourOf 65 = .ok (.baload, 1) := by decide +kernel
theorem dX3_fourOf_66 : decode cX3_fourOf 66 = .ok (.sipush 255, 3) := by decide +kernel
theorem dX3_fourOf_69 : decode cX3_fourOf 69 = .ok (.iand, 1) := by decide +kernel
theorem dX3_fourOf_70 : decode cX3_fourOf 70 = .ok (.ior, 1) := by decide +kernel
theorem dX3_fourOf_71 : decode cX3_fourOf 71 = .ok (.ireturn, 1) := by decide +kernel
theorem dX3_putByte_0 : decode cX3_putByte 0 = .ok (.iload_n 1, 1) := by decide +kernel
theorem dX3_putByte_1 : decode cX3_putByte 1 = .ok (.ifCond .lt 18, 3) := by decide +kernel
theorem dX3_putByte_4 : decode cX3_putByte 4 = .ok (.iload_n 1, 1) := by decide +kernel
theorem dX3_putByte_5 : decode cX3_putByte 5 = .ok (.sipush 4096, 3) := by decide +kernel
theorem dX3_putByte_8 : decode cX3_putByte 8 = .ok (.if_icmp .ge 11, 3) := by decide +kernel
theorem dX3_putByte_11 : decode cX3_putByte 11 = .ok (.aload_n 0, 1) := by decide +kernel
theorem dX3_putByte_12 : decode cX3_putByte 12 = .ok (.getfield 9, 3) := by decide +kernel
theorem dX3_putByte_15 : decode cX3_putByte 15 = .ok (.iload_n 1, 1) := by decide +kernel
theorem dX3_putByte_16 : decode cX3_putByte 16 = .ok (.iload_n 2, 1) := by decide +kernel
theorem dX3_putByte_17 : decode cX3_putByte 17 = .ok (.i2b, 1) := by decide +kernel
theorem dX3_putByte_18 : decode cX3_putByte 18 = .ok (.bastore, 1) := by decide +kernel
theorem dX3_putByte_19 : decode cX3_putByte 19 = .ok (.return_, 1) := by decide +kernel
theorem dX3_putFour_0 : decode cX3_putFour 0 = .ok (.aload_n 0, 1) := by decide +kernel
theorem dX3_putFour_1 : decode cX3_putFour 1 = .ok (.iload_n 1, 1) := by decide +kernel
theorem dX3_putFour_2 : decode cX3_putFour 2 = .ok (.iload_n 2, 1) := by decide +kernel
theorem dX3_putFour_3 : decode cX3_putFour 3 = .ok (.bipush 24, 2) := by decide +kernel
theorem dX3_putFour_5 : decode cX3_putFour 5 = .ok (.ishr, 1) := by decide +kernel
theorem dX3_putFour_6 : decode cX3_putFour 6 = .ok (.invokevirtual 17, 3) := by decide +kernel
theorem dX3_putFour_9 : decode cX3_putFour 9 = .ok (.aload_n 0, 1) := by decide +kernel
theorem dX3_putFour_10 : decode cX3_putFour 10 = .ok (.iload_n 1, 1) := by decide +kernel
theorem dX3_putFour_11 : decode cX3_putFour 11 = .ok (.iconst 1, 1) := by decide +kernel
theorem dX3_putFour_12 : decode cX3_putFour 12 = .ok (.iadd, 1) := by decide +kernel
theorem dX3_putFour_13 : decode cX3_putFour 13 = .ok (.iload_n 2, 1) := by decide +kernel
theorem dX3_putFour_14 : decode cX3_putFour 14 = .ok (.bipush 16, 2) := by decide +kernel
theorem dX3_putFour_16 : decode cX3_putFour 16 = .ok (.ishr, 1) := by decide +kernel
theorem dX3_putFour_17 : decode cX3_putFour 17 = .ok (.invokevirtual 17, 3) := by decide +kernel
theorem dX3_putFour_20 : decode cX3_putFour 20 = .ok (.aload_n 0, 1) := by decide +kernel
theorem dX3_putFour_21 : decode cX3_putFour 21 = .ok (.iload_n 1, 1) := by decide +kernel
theorem dX3_putFour_22 : decode cX3_putFour 22 = .ok (.iconst 2, 1) := by decide +kernel
theorem dX3_putFour_23 : decode cX3_putFour 23 = .ok (.iadd, 1) := by decide +kernel
theorem dX3_putFour_24 : decode cX3_putFour 24 = .ok (.iload_n 2, 1) := by decide +kernel
theorem dX3_putFour_25 : decode cX3_putFour 25 = .ok (.bipush 8, 2) := by decide +kernel
theorem dX3_putFour_27 : decode cX3_putFour 27 = .ok (.ishr, 1) := by decide +kernel
theorem dX3_putFour_28 : decode cX3_putFour 28 = .ok (.invokevirtual 17, 3) := by decide +kernel
theorem dX3_putFour_31 : decode cX3_putFour 31 = .ok (.aload_n 0, 1) := by decide +kernel
theorem dX3_putFour_32 : decode cX3_putFour 32 = .ok (.iload_n 1, 1) := by decide +kernel
theorem dX3_putFour_33 : decode cX3_putFour 33 = .ok (.iconst 3, 1) := by decide +kernel
theorem dX3_putFour_34 : decode cX3_putFour 34 = .ok (.iadd, 1) := by decide +kernel
theorem dX3_putFour_35 : decode cX3_putFour 35 = .ok (.iload_n 2, 1) := by decide +kernel
theorem dX3_putFour_36 : decode cX3_putFour 36 = .ok (.invokevirtual 17, 3) := by decide +kernel
theorem dX3_putFour_39 : decode cX3_putFour 39 = .ok (.return_, 1) := by decide +kernel
theorem dX5_init_0 : decode cX5_init 0 = .ok (.aload_n 0, 1) := by decide +kernel
theorem dX5_init_1 : decode cX5_init 1 = .ok (.invokespecial 3, 3) := by decide +kernel
theorem dX5_init_4 : decode cX5_init 4 = .ok (.aload_n 0, 1) := by decide +kernel
theorem dX5_init_5 : decode cX5_init 5 = .ok (.new 9, 3) := by decide +kernel
theorem dX5_init_8 : decode cX5_init 8 = .ok (.dup, 1) := by decide +kernel
theorem dX5_init_9 : decode cX5_init 9 = .ok (.invokespecial 11, 3) := by decide +kernel
theorem dX5_init_12 : decode cX5_init 12 = .ok (.putfield 12, 3) := by decide +kernel
theorem dX5_init_15 : decode cX5_init 15 = .ok (.aload_n 0, 1) := by decide +kernel
theorem dX5_init_16 : decode cX5_init 16 = .ok (.new 18, 3) := by decide +kernel
theorem dX5_init_19 : decode cX5_init 19 = .ok (.dup, 1) := by decide +kernel
theorem dX5_init_20 : decode cX5_init 20 = .ok (.invokespecial 20, 3) := by decide +kernel
theorem dX5_init_23 : decode cX5_init 23 = .ok (.putfield 21, 3) := by decide +kernel
theorem dX5_init_26 : decode cX5_init 26 = .ok (.aload_n 0, 1) := by decide +kernel
theorem dX5_init_27 : decode cX5_init 27 = .ok (.new 25, 3) := by decide +kernel
theorem dX5_init_30 : decode cX5_init 30 = .ok (.dup, 1) := by decide +kernel
theorem dX5_init_31 : decode cX5_init 31 = .ok (.aload_n 0, 1) := by decide +kernel
theorem dX5_init_32 : decode cX5_init 32 = .ok (.getfield 12, 3) := by decide +kernel
theorem dX5_init_35 : decode cX5_init 35 = .ok (.invokespecial 27, 3) := by decide +kernel
theorem dX5_init_38 : decode cX5_init 38 = .ok (.putfield 30, 3) := by decide +kernel
theorem dX5_init_41 : decode cX5_init 41 = .ok (.aload_n 0, 1) := by decide +kernel
theorem dX5_init_42 : decode cX5_init 42 = .ok (.new 34, 3) := by decide +kernel
theorem dX5_init_45 : decode cX5_init 45 = .ok (.dup, 1) := by decide +kernel
theorem dX5_init_46 : decode cX5_init 46 = .ok (.invokespecial 36, 3) := by decide +kernel
theorem dX5_init_49 : decode cX5_init 49 = .ok (.putfield 37, 3) := by decide +kernel
theorem dX5_init_52 : decode cX5_init 52 = .ok (.aload_n 0, 1) := by decide +kernel
theorem dX5_init_53 : decode cX5_init 53 = .ok (.bipush 20, 2) := by decide +kernel
theorem dX5_init_55 : decode cX5_init 55 = .ok (.bipush 120, 2) := by decide +kernel
theorem dX5_init_57 : decode cX5_init 57 = .ok (.multianewarray 41 2, 4) := by decide +kernel
theorem dX5_init_61 : decode cX5_init 61 = .ok (.putfield 43, 3) := by decide +kernel
theorem dX5_init_64 : decode cX5_init 64 = .ok (.aload_n 0, 1) := by decide +kernel
theorem dX5_init_65 : decode cX5_init 65 = .ok (.bipush 20, 2) := by decide +kernel
theorem dX5_init_67 : decode cX5_init 67 = .ok (.newarray .int, 2) := by decide +kernel
theorem dX5_init_69 : decode cX5_init 69 = .ok (.putfield 46, 3) := by decide +kernel
theorem dX5_init_72 : decode cX5_init 72 = .ok (.aload_n 0, 1) := by decide +kernel
theorem dX5_init_73 : decode cX5_init 73 = .ok (.bipush 20, 2) := by decide +kernel
theorem dX5_init_75 : decode cX5_init 75 = .ok (.newarray .int, 2) := by decide +kernel
theorem dX5_init_77 : decode cX5_init 77 = .ok (.putfield 50, 3) := by decide +kernel
theorem dX5_init_80 : decode cX5_init 80 = .ok (.aload_n 0, 1) := by decide +kernel
theorem dX5_init_81 : decode cX5_init 81 = .ok (.bipush 60, 2) := by decide +kernel
theorem dX5_init_83 : decode cX5_init 83 = .ok (.newarray .int, 2) := by decide +kernel
theorem dX5_init_85 : decode cX5_init 85 = .ok (.putfield 53, 3) := by decide +kernel
theorem dX5_init_88 : decode cX5_init 88 = .ok (.aload_n 0, 1) := by decide +kernel
theorem dX5_init_89 : decode cX5_init 89 = .ok (.bipush 60, 2) := by decide +kernel
theorem dX5_init_91 : decode cX5_init 91 = .ok (.newarray .int, 2) := by decide +kernel
theorem dX5_init_93 : decode cX5_init 93 = .ok (.putfield 56, 3) := by decide +kernel
theorem dX5_init_96 : decode cX5_init 96 = .ok (.aload_n 0, 1) := by decide +kernel
theorem dX5_init_97 : decode cX5_init 97 = .ok (.iconst (-1), 1) := by decide +kernel
theorem dX5_init_98 : decode cX5_init 98 = .ok (.putfield 59, 3) := by decide +kernel
theorem dX5_init_101 : decode cX5_init 101 = .ok (.aload_n 0, 1) := by decide +kernel
theorem dX5_init_102 : decode cX5_init 102 = .ok (.aload_n 1, 1) := by decide +kernel
theorem dX5_init_103 : decode cX5_init 103 = .ok (.putfield 63, 3) := by decide +kernel
theorem dX5_init_106 : decode cX5_init 106 = .ok (.aload_n 0, 1) := by decide +kernel
theorem dX5_init_107 : decode cX5_init 107 = .ok (.aload_n 2, 1) := by decide +kernel
theorem dX5_init_108 : decode cX5_init 108 = .ok (.putfield 67, 3) := by decide +kernel
theorem dX5_init_111 : decode cX5_init 111 = .ok (.return_, 1) := by decide +kernel
theorem dX5_pack_0 : decode cX5_pack 0 = .ok (.aload_n 0, 1) := by decide +kernel
theorem dX5_pack_1 : decode cX5_pack 1 = .ok (.invokevirtual 71, 3) := by decide +kernel
theorem dX5_pack_4 : decode cX5_pack 4 = .ok (.aload_n 0, 1) := by decide +kernel
theorem dX5_pack_5 : decode cX5_pack 5 = .ok (.invokevirtual 74, 3) := by decide +kernel
theorem dX5_pack_8 : decode cX5_pack 8 = .ok (.aload_n 0, 1) := by decide +kernel
theorem dX5_pack_9 : decode cX5_pack 9 = .ok (.getfield 37, 3) := by decide +kernel
theorem dX5_pack_12 : decode cX5_pack 12 = .ok (.iload_n 1, 1) := by decide +kernel
theorem dX5_pack_13 : decode cX5_pack 13 = .ok (.invokevirtual 77, 3) := by decide +kernel
theorem dX5_pack_16 : decode cX5_pack 16 = .ok (.aload_n 0, 1) := by decide +kernel
theorem dX5_pack_17 : decode cX5_pack 17 = .ok (.getfield 37, 3) := by decide +kernel
theorem dX5_pack_20 : decode cX5_pack 20 = .ok (.invokevirtual 81, 3) := by decide +kernel
theorem dX5_pack_23 : decode cX5_pack 23 = .ok (.istore_n 2, 1) := by decide +kernel
theorem dX5_pack_24 : decode cX5_pack 24 = .ok (.iconst 0, 1) := by decide +kernel
theorem dX5_pack_25 : decode cX5_pack 25 = .ok (.istore_n 3, 1) := by decide +kernel
theorem dX5_pack_26 : decode cX5_pack 26 = .ok (.iconst 0, 1) := by decide +kernel
theorem dX5_pack_27 : decode cX5_pack 27 = .ok (.istore 4, 2) := by decide +kernel
theorem dX5_pack_29 : decode cX5_pack 29 = .ok (.iload 4, 2) := by decide +kernel
theorem dX5_pack_31 : decode cX5_pack 31 = .ok (.aload_n 0, 1) := by decide +kernel
theorem dX5_pack_32 : decode cX5_pack 32 = .ok (.getfield 21, 3) := by decide +kernel
theorem dX5_pack_35 : decode cX5_pack 35 = .ok (.getfield 85, 3) := by decide +kernel
theorem dX5_pack_38 : decode cX5_pack 38 = .ok (.if_icmp .ge 50, 3) := by decide +kernel
theorem dX5_pack_41 : decode cX5_pack 41 = .ok (.aload_n 0, 1) := by decide +kernel
theorem dX5_pack_42 : decode cX5_pack 42 = .ok (.getfield 50, 3) := by decide +kernel
theorem dX5_pack_45 : decode cX5_pack 45 = .ok (.iload 4, 2) := by decide +kernel
theorem dX5_pack_47 : decode cX5_pack 47 = .ok (.aload_n 0, 1) := by decide +kernel
theorem dX5_pack_48 : decode cX5_pack 48 = .ok (.iload 4, 2) := by decide +kernel
theorem dX5_pack_50 : decode cX5_pack 50 = .ok (.invokevirtual 88, 3) := by decide +kernel
theorem dX5_pack_53 : decode cX5_pack 53 = .ok (.iastore, 1) := by decide +kernel
theorem dX5_pack_54 : decode cX5_pack 54 = .ok (.iload_n 3, 1) := by decide +kernel
theorem dX5_pack_55 : decode cX5_pack 55 = .ok (.aload_n 0, 1) := by decide +kernel
theorem dX5_pack_56 : decode cX5_pack 56 = .ok (.getfield 50, 3) := by decide +kernel
theorem dX5_pack_59 : decode cX5_pack 59 = .ok (.iload 4, 2) := by decide +kernel
theorem dX5_pack_61 : decode cX5_pack 61 = .ok (.iaload, 1) := by decide +kernel
theorem dX5_pack_62 : decode cX5_pack 62 = .ok (.iadd, 1) := by decide +kernel
theorem dX5_pack_63 : decode cX5_pack 63 = .ok (.istore_n 3, 1) := by decide +kernel
theorem dX5_pack_64 : decode cX5_pack 64 = .ok (.iload_n 2, 1) := by decide +kernel
theorem dX5_pack_65 : decode cX5_pack 65 = .ok (.iconst 1, 1) := by decide +kernel
theorem dX5_pack_66 : decode cX5_pack 66 = .ok (.aload_n 0, 1) := by decide +kernel
theorem dX5_pack_67 : decode cX5_pack 67 = .ok (.getfield 50, 3) := by decide +kernel
theorem dX5_pack_70 : decode cX5_pack 70 = .ok (.iload 4, 2) := by decide +kernel
theorem dX5_pack_72 : decode cX5_pack 72 = .ok (.iaload, 1) := by decide +kernel
theorem dX5_pack_73 : decode cX5_pack 73 = .ok (.bipush 7, 2) := by decide +kernel
theorem dX5_pack_75 : decode cX5_pack 75 = .ok (.iadd, 1) := by decide +kernel
theorem dX5_pack_76 : decode cX5_pack 76 = .ok (.bipush 8, 2) := by decide +kernel
theorem dX5_pack_78 : decode cX5_pack 78 = .ok (.idiv, 1) := by decide +kernel
theorem dX5_pack_79 : decode cX5_pack 79 = .ok (.iadd, 1) := by decide +kernel
theorem dX5_pack_80 : decode cX5_pack 80 = .ok (.iadd, 1) := by decide +kernel
theorem dX5_pack_81 : decode cX5_pack 81 = .ok (.istore_n 2, 1) := by decide +kernel
theorem dX5_pack_82 : decode cX5_pack 82 = .ok (.iinc 4 1, 3) := by decide +kernel
theorem dX5_pack_85 : decode cX5_pack 85 = .ok (.goto (-56), 3) := by decide +kernel
theorem dX5_pack_88 : decode cX5_pack 88 = .ok (.iload_n 1, 1) := by decide +kernel
theorem dX5_pack_89 : decode cX5_pack 89 = .ok (.sipush 4096, 3) := by decide +kernel
theorem dX5_pack_92 : decode cX5_pack 92 = .ok (.iload_n 2, 1) := by decide +kernel
theorem dX5_pack_93 : decode cX5_pack 93 = .ok (.isub, 1) := by decide +kernel
theorem dX5_pack_94 : decode cX5_pack 94 = .ok (.if_icmp .le 6, 3) := by decide +kernel
theorem dX5_pack_97 : decode cX5_pack 97 = .ok (.bipush (-4), 2) := by decide +kernel
theorem dX5_pack_99 : decode cX5_pack 99 = .ok (.ireturn, 1) := by decide +kernel
theorem dX5_pack_100 : decode cX5_pack 100 = .ok (.aload_n 0, 1) := by decide +kernel
theorem dX5_pack_101 : decode cX5_pack 101 = .ok (.getfield 37, 3) := by decide +kernel
theorem dX5_pack_104 : decode cX5_pack 104 = .ok (.aload_n 0, 1) := by decide +kernel
theorem dX5_pack_105 : decode cX5_pack 105 = .ok (.getfield 63, 3) := by decide +kernel
theorem dX5_pack_108 : decode cX5_pack 108 = .ok (.aload_n 0, 1) := by decide +kernel
theorem dX5_pack_109 : decode cX5_pack 109 = .ok (.getfield 12, 3) := by decide +kernel
theorem dX5_pack_112 : decode cX5_pack 112 = .ok (.iload_n 1, 1) := by decide +kernel
theorem dX5_pack_113 : decode cX5_pack 113 = .ok (.invokevirtual 94, 3) := by decide +kernel
theorem dX5_pack_116 : decode cX5_pack 116 = .ok (.aload_n 0, 1) := by decide +kernel
theorem dX5_pack_117 : decode cX5_pack 117 = .ok (.iload_n 1, 1) := by decide +kernel
theorem dX5_pack_118 : decode cX5_pack 118 = .ok (.aload_n 0, 1) := by decide +kernel
theorem dX5_pack_119 : decode cX5_pack 119 = .ok (.getfield 37, 3) := by decide +kernel
theorem dX5_pack_122 : decode cX5_pack 122 = .ok (.invokevirtual 81, 3) := by decide +kernel
theorem dX5_pack_125 : decode cX5_pack 125 = .ok (.iadd, 1) := by decide +kernel
theorem dX5_pack_126 : decode cX5_pack 126 = .ok (.invokevirtual 98, 3) := by decide +kernel
theorem dX5_pack_129 : decode cX5_pack 129 = .ok (.aload_n 0, 1) := by decide +kernel
theorem dX5_pack_130 : decode cX5_pack 130 = .ok (.invokevirtual 101, 3) := by decide +kernel
theorem dX5_pack_133 : decode cX5_pack 133 = .ok (.aload_n 0, 1) := by decide +kernel
theorem dX5_pack_134 : decode cX5_pack 134 = .ok (.getfield 67, 3) := by decide +kernel
theorem dX5_pack_137 : decode cX5_pack 137 = .ok (.iload_n 1, 1) := by decide +kernel
theorem dX5_pack_138 : decode cX5_pack 138 = .ok (.iload_n 1, 1) := by decide +kernel
theorem dX5_pack_139 : decode cX5_pack 139 = .ok (.iload_n 2, 1) := by decide +kernel
theorem dX5_pack_140 : decode cX5_pack 140 = .ok (.iadd, 1) := by decide +kernel
theorem dX5_pack_141 : decode cX5_pack 141 = .ok (.invokevirtual 104, 3) := by decide +kernel
theorem dX5_pack_144 : decode cX5_pack 144 = .ok (.iload_n 3, 1) := by decide +kernel
theorem dX5_pack_145 : decode cX5_pack 145 = .ok (.ireturn, 1) := by decide +kernel
theorem dX5_partTexts_0 : decode cX5_partTexts 0 = .ok (.aload_n 0, 1) := by decide +kernel
theorem dX5_partTexts_1 : decode cX5_partTexts 1 = .ok (.getfield 53, 3) := by decide +kernel
theorem dX5_partTexts_4 : decode cX5_partTexts 4 = .ok (.iconst 0, 1) := by decide +kernel
theorem dX5_partTexts_5 : decode cX5_partTexts 5 = .ok (.invokestatic 110, 3) := by decide +kernel
theorem dX5_partTexts_8 : decode cX5_partTexts 8 = .ok (.iconst 0, 1) := by decide +kernel
theorem dX5_partTexts_9 : decode cX5_partTexts 9 = .ok (.istore_n 1, 1) := by decide +kernel
theorem dX5_partTexts_10 : decode cX5_partTexts 10 = .ok (.iload_n 1, 1) := by decide +kernel
theorem dX5_partTexts_11 : decode cX5_partTexts 11 = .ok (.aload_n 0, 1) := by decide +kernel
