theorem dX5_partTexts_12 : decode cX5_partTexts 12 = .ok (.getfield 21, 3) := by decide +kernel
theorem dX5_partTexts_15 : decode cX5_partTexts 15 = .ok (.getfield 85, 3) := by decide +kernel
theorem dX5_partTexts_18 : decode cX5_partTexts 18 = .ok (.if_icmp .ge 98, 3) := by decide +kernel
theorem dX5_partTexts_21 : decode cX5_partTexts 21 = .ok (.aload_n 0, 1) := by decide +kernel
theorem dX5_partTexts_22 : decode cX5_partTexts 22 = .ok (.getfield 30, 3) := by decide +kernel
theorem dX5_partTexts_25 : decode cX5_partTexts 25 = .ok (.aload_n 0, 1) := by decide +kernel
theorem dX5_partTexts_26 : decode cX5_partTexts 26 = .ok (.getfield 21, 3) := by decide +kernel
theorem dX5_partTexts_29 : decode cX5_partTexts 29 = .ok (.getfield 116, 3) := by decide +kernel
theorem dX5_partTexts_32 : decode cX5_partTexts 32 = .ok (.iload_n 1, 1) := by decide +kernel
theorem dX5_partTexts_33 : decode cX5_partTexts 33 = .ok (.aaload, 1) := by decide +kernel
theorem dX5_partTexts_34 : decode cX5_partTexts 34 = .ok (.aload_n 0, 1) := by decide +kernel
theorem dX5_partTexts_35 : decode cX5_partTexts 35 = .ok (.getfield 21, 3) := by decide +kernel
theorem dX5_partTexts_38 : decode cX5_partTexts 38 = .ok (.getfield 119, 3) := by decide +kernel
theorem dX5_partTexts_41 : decode cX5_partTexts 41 = .ok (.iload_n 1, 1) := by decide +kernel
theorem dX5_partTexts_42 : decode cX5_partTexts 42 = .ok (.iaload, 1) := by decide +kernel
theorem dX5_partTexts_43 : decode cX5_partTexts 43 = .ok (.invokevirtual 122, 3) := by decide +kernel
theorem dX5_partTexts_46 : decode cX5_partTexts 46 = .ok (.pop, 1) := by decide +kernel
theorem dX5_partTexts_47 : decode cX5_partTexts 47 = .ok (.aload_n 0, 1) := by decide +kernel
theorem dX5_partTexts_48 : decode cX5_partTexts 48 = .ok (.getfield 46, 3) := by decide +kernel
theorem dX5_partTexts_51 : decode cX5_partTexts 51 = .ok (.iload_n 1, 1) := by decide +kernel
theorem dX5_partTexts_52 : decode cX5_partTexts 52 = .ok (.aload_n 0, 1) := by decide +kernel
theorem dX5_partTexts_53 : decode cX5_partTexts 53 = .ok (.getfield 30, 3) := by decide +kernel
theorem dX5_partTexts_56 : decode cX5_partTexts 56 = .ok (.aload_n 0, 1) := by decide +kernel
theorem dX5_partTexts_57 : decode cX5_partTexts 57 = .ok (.getfield 21, 3) := by decide +kernel
theorem dX5_partTexts_60 : decode cX5_partTexts 60 = .ok (.getfield 119, 3) := by decide +kernel
theorem dX5_partTexts_63 : decode cX5_partTexts 63 = .ok (.iload_n 1, 1) := by decide +kernel
theorem dX5_partTexts_64 : decode cX5_partTexts 64 = .ok (.iaload, 1) := by decide +kernel
theorem dX5_partTexts_65 : decode cX5_partTexts 65 = .ok (.aload_n 0, 1) := by decide +kernel
theorem dX5_partTexts_66 : decode cX5_partTexts 66 = .ok (.getfield 43, 3) := by decide +kernel
theorem dX5_partTexts_69 : decode cX5_partTexts 69 = .ok (.iload_n 1, 1) := by decide +kernel
theorem dX5_partTexts_70 : decode cX5_partTexts 70 = .ok (.aaload, 1) := by decide +kernel
theorem dX5_partTexts_71 : decode cX5_partTexts 71 = .ok (.invokevirtual 126, 3) := by decide +kernel
theorem dX5_partTexts_74 : decode cX5_partTexts 74 = .ok (.iastore, 1) := by decide +kernel
theorem dX5_partTexts_75 : decode cX5_partTexts 75 = .ok (.iconst 0, 1) := by decide +kernel
theorem dX5_partTexts_76 : decode cX5_partTexts 76 = .ok (.istore_n 2, 1) := by decide +kernel
theorem dX5_partTexts_77 : decode cX5_partTexts 77 = .ok (.iload_n 2, 1) := by decide +kernel
theorem dX5_partTexts_78 : decode cX5_partTexts 78 = .ok (.aload_n 0, 1) := by decide +kernel
theorem dX5_partTexts_79 : decode cX5_partTexts 79 = .ok (.getfield 46, 3) := by decide +kernel
theorem dX5_partTexts_82 : decode cX5_partTexts 82 = .ok (.iload_n 1, 1) := by decide +kernel
theorem dX5_partTexts_83 : decode cX5_partTexts 83 = .ok (.iaload, 1) := by decide +kernel
theorem dX5_partTexts_84 : decode cX5_partTexts 84 = .ok (.if_icmp .ge 26, 3) := by decide +kernel
theorem dX5_partTexts_87 : decode cX5_partTexts 87 = .ok (.aload_n 0, 1) := by decide +kernel
theorem dX5_partTexts_88 : decode cX5_partTexts 88 = .ok (.getfield 53, 3) := by decide +kernel
theorem dX5_partTexts_91 : decode cX5_partTexts 91 = .ok (.aload_n 0, 1) := by decide +kernel
theorem dX5_partTexts_92 : decode cX5_partTexts 92 = .ok (.getfield 43, 3) := by decide +kernel
theorem dX5_partTexts_95 : decode cX5_partTexts 95 = .ok (.iload_n 1, 1) := by decide +kernel
theorem dX5_partTexts_96 : decode cX5_partTexts 96 = .ok (.aaload, 1) := by decide +kernel
theorem dX5_partTexts_97 : decode cX5_partTexts 97 = .ok (.iload_n 2, 1) := by decide +kernel
theorem dX5_partTexts_98 : decode cX5_partTexts 98 = .ok (.iaload, 1) := by decide +kernel
theorem dX5_partTexts_99 : decode cX5_partTexts 99 = .ok (.dup2, 1) := by decide +kernel
theorem dX5_partTexts_100 : decode cX5_partTexts 100 = .ok (.iaload, 1) := by decide +kernel
theorem dX5_partTexts_101 : decode cX5_partTexts 101 = .ok (.iconst 1, 1) := by decide +kernel
theorem dX5_partTexts_102 : decode cX5_partTexts 102 = .ok (.iadd, 1) := by decide +kernel
theorem dX5_partTexts_103 : decode cX5_partTexts 103 = .ok (.iastore, 1) := by decide +kernel
theorem dX5_partTexts_104 : decode cX5_partTexts 104 = .ok (.iinc 2 1, 3) := by decide +kernel
theorem dX5_partTexts_107 : decode cX5_partTexts 107 = .ok (.goto (-30), 3) := by decide +kernel
theorem dX5_partTexts_110 : decode cX5_partTexts 110 = .ok (.iinc 1 1, 3) := by decide +kernel
theorem dX5_partTexts_113 : decode cX5_partTexts 113 = .ok (.goto (-103), 3) := by decide +kernel
theorem dX5_partTexts_116 : decode cX5_partTexts 116 = .ok (.return_, 1) := by decide +kernel
theorem dX5_growTree_0 : decode cX5_growTree 0 = .ok (.aload_n 0, 1) := by decide +kernel
theorem dX5_growTree_1 : decode cX5_growTree 1 = .ok (.getfield 37, 3) := by decide +kernel
theorem dX5_growTree_4 : decode cX5_growTree 4 = .ok (.invokevirtual 130, 3) := by decide +kernel
theorem dX5_growTree_7 : decode cX5_growTree 7 = .ok (.aload_n 0, 1) := by decide +kernel
theorem dX5_growTree_8 : decode cX5_growTree 8 = .ok (.getfield 37, 3) := by decide +kernel
theorem dX5_growTree_11 : decode cX5_growTree 11 = .ok (.iconst (-1), 1) := by decide +kernel
theorem dX5_growTree_12 : decode cX5_growTree 12 = .ok (.aload_n 0, 1) := by decide +kernel
theorem dX5_growTree_13 : decode cX5_growTree 13 = .ok (.getfield 21, 3) := by decide +kernel
theorem dX5_growTree_16 : decode cX5_growTree 16 = .ok (.getfield 85, 3) := by decide +kernel
theorem dX5_growTree_19 : decode cX5_growTree 19 = .ok (.iconst 1, 1) := by decide +kernel
theorem dX5_growTree_20 : decode cX5_growTree 20 = .ok (.invokevirtual 133, 3) := by decide +kernel
theorem dX5_growTree_23 : decode cX5_growTree 23 = .ok (.iconst 0, 1) := by decide +kernel
theorem dX5_growTree_24 : decode cX5_growTree 24 = .ok (.istore_n 1, 1) := by decide +kernel
theorem dX5_growTree_25 : decode cX5_growTree 25 = .ok (.iload_n 1, 1) := by decide +kernel
theorem dX5_growTree_26 : decode cX5_growTree 26 = .ok (.aload_n 0, 1) := by decide +kernel
theorem dX5_growTree_27 : decode cX5_growTree 27 = .ok (.getfield 12, 3) := by decide +kernel
theorem dX5_growTree_30 : decode cX5_growTree 30 = .ok (.getfield 137, 3) := by decide +kernel
theorem dX5_growTree_33 : decode cX5_growTree 33 = .ok (.if_icmp .ge 53, 3) := by decide +kernel
theorem dX5_growTree_36 : decode cX5_growTree 36 = .ok (.aload_n 0, 1) := by decide +kernel
theorem dX5_growTree_37 : decode cX5_growTree 37 = .ok (.getfield 53, 3) := by decide +kernel
theorem dX5_growTree_40 : decode cX5_growTree 40 = .ok (.iload_n 1, 1) := by decide +kernel
theorem dX5_growTree_41 : decode cX5_growTree 41 = .ok (.iaload, 1) := by decide +kernel
theorem dX5_growTree_42 : decode cX5_growTree 42 = .ok (.ifCond .le 38, 3) := by decide +kernel
theorem dX5_growTree_45 : decode cX5_growTree 45 = .ok (.aload_n 0, 1) := by decide +kernel
theorem dX5_growTree_46 : decode cX5_growTree 46 = .ok (.getfield 56, 3) := by decide +kernel
theorem dX5_growTree_49 : decode cX5_growTree 49 = .ok (.iload_n 1, 1) := by decide +kernel
theorem dX5_growTree_50 : decode cX5_growTree 50 = .ok (.aload_n 0, 1) := by decide +kernel
theorem dX5_growTree_51 : decode cX5_growTree 51 = .ok (.getfield 37, 3) := by decide +kernel
theorem dX5_growTree_54 : decode cX5_growTree 54 = .ok (.getfield 138, 3) := by decide +kernel
theorem dX5_growTree_57 : decode cX5_growTree 57 = .ok (.iastore, 1) := by decide +kernel
theorem dX5_growTree_58 : decode cX5_growTree 58 = .ok (.aload_n 0, 1) := by decide +kernel
theorem dX5_growTree_59 : decode cX5_growTree 59 = .ok (.getfield 37, 3) := by decide +kernel
theorem dX5_growTree_62 : decode cX5_growTree 62 = .ok (.iload_n 1, 1) := by decide +kernel
theorem dX5_growTree_63 : decode cX5_growTree 63 = .ok (.aload_n 0, 1) := by decide +kernel
theorem dX5_growTree_64 : decode cX5_growTree 64 = .ok (.getfield 53, 3) := by decide +kernel
theorem dX5_growTree_67 : decode cX5_growTree 67 = .ok (.iload_n 1, 1) := by decide +kernel
theorem dX5_growTree_68 : decode cX5_growTree 68 = .ok (.iaload, 1) := by decide +kernel
theorem dX5_growTree_69 : decode cX5_growTree 69 = .ok (.aload_n 0, 1) := by decide +kernel
theorem dX5_growTree_70 : decode cX5_growTree 70 = .ok (.getfield 12, 3) := by decide +kernel
theorem dX5_growTree_73 : decode cX5_growTree 73 = .ok (.iload_n 1, 1) := by decide +kernel
theorem dX5_growTree_74 : decode cX5_growTree 74 = .ok (.invokevirtual 139, 3) := by decide +kernel
theorem dX5_growTree_77 : decode cX5_growTree 77 = .ok (.invokevirtual 133, 3) := by decide +kernel
theorem dX5_growTree_80 : decode cX5_growTree 80 = .ok (.iinc 1 1, 3) := by decide +kernel
theorem dX5_growTree_83 : decode cX5_growTree 83 = .ok (.goto (-58), 3) := by decide +kernel
theorem dX5_growTree_86 : decode cX5_growTree 86 = .ok (.aload_n 0, 1) := by decide +kernel
theorem dX5_growTree_87 : decode cX5_growTree 87 = .ok (.getfield 37, 3) := by decide +kernel
theorem dX5_growTree_90 : decode cX5_growTree 90 = .ok (.invokevirtual 142, 3) := by decide +kernel
theorem dX5_growTree_93 : decode cX5_growTree 93 = .ok (.return_, 1) := by decide +kernel
theorem dX5_countBits_0 : decode cX5_countBits 0 = .ok (.aload_n 0, 1) := by decide +kernel
theorem dX5_countBits_1 : decode cX5_countBits 1 = .ok (.getfield 37, 3) := by decide +kernel
theorem dX5_countBits_4 : decode cX5_countBits 4 = .ok (.getfield 145, 3) := by decide +kernel
theorem dX5_countBits_7 : decode cX5_countBits 7 = .ok (.iconst 0, 1) := by decide +kernel
theorem dX5_countBits_8 : decode cX5_countBits 8 = .ok (.iaload, 1) := by decide +kernel
theorem dX5_countBits_9 : decode cX5_countBits 9 = .ok (.istore_n 2, 1) := by decide +kernel
theorem dX5_countBits_10 : decode cX5_countBits 10 = .ok (.iconst 0, 1) := by decide +kernel
theorem dX5_countBits_11 : decode cX5_countBits 11 = .ok (.istore_n 3, 1) := by decide +kernel
theorem dX5_countBits_12 : decode cX5_countBits 12 = .ok (.iload_n 3, 1) := by decide +kernel
theorem dX5_countBits_13 : decode cX5_countBits 13 = .ok (.aload_n 0, 1) := by decide +kernel
theorem dX5_countBits_14 : decode cX5_countBits 14 = .ok (.getfield 46, 3) := by decide +kernel
theorem dX5_countBits_17 : decode cX5_countBits 17 = .ok (.iload_n 1, 1) := by decide +kernel
theorem dX5_countBits_18 : decode cX5_countBits 18 = .ok (.iaload, 1) := by decide +kernel
theorem dX5_countBits_19 : decode cX5_countBits 19 = .ok (.if_icmp .ge 33, 3) := by decide +kernel
theorem dX5_countBits_22 : decode cX5_countBits 22 = .ok (.iload_n 2, 1) := by decide +kernel
theorem dX5_countBits_23 : decode cX5_countBits 23 = .ok (.aload_n 0, 1) := by decide +kernel
theorem dX5_countBits_24 : decode cX5_countBits 24 = .ok (.getfield 37, 3) := by decide +kernel
theorem dX5_countBits_27 : decode cX5_countBits 27 = .ok (.getfield 145, 3) := by decide +kernel
theorem dX5_countBits_30 : decode cX5_countBits 30 = .ok (.aload_n 0, 1) := by decide +kernel
theorem dX5_countBits_31 : decode cX5_countBits 31 = .ok (.getfield 56, 3) := by decide +kernel
theorem dX5_countBits_34 : decode cX5_countBits 34 = .ok (.aload_n 0, 1) := by decide +kernel
theorem dX5_countBits_35 : decode cX5_countBits 35 = .ok (.getfield 43, 3) := by decide +kernel
theorem dX5_countBits_38 : decode cX5_countBits 38 = .ok (.iload_n 1, 1) := by decide +kernel
theorem dX5_countBits_39 : decode cX5_countBits 39 = .ok (.aaload, 1) := by decide +kernel
theorem dX5_countBits_40 : decode cX5_countBits 40 = .ok (.iload_n 3, 1) := by decide +kernel
theorem dX5_countBits_41 : decode cX5_countBits 41 = .ok (.iaload, 1) := by decide +kernel
theorem dX5_countBits_42 : decode cX5_countBits 42 = .ok (.iaload, 1) := by decide +kernel
theorem dX5_countBits_43 : decode cX5_countBits 43 = .ok (.iaload, 1) := by decide +kernel
theorem dX5_countBits_44 : decode cX5_countBits 44 = .ok (.iadd, 1) := by decide +kernel
theorem dX5_countBits_45 : decode cX5_countBits 45 = .ok (.istore_n 2, 1) := by decide +kernel
theorem dX5_countBits_46 : decode cX5_countBits 46 = .ok (.iinc 3 1, 3) := by decide +kernel
theorem dX5_countBits_49 : decode cX5_countBits 49 = .ok (.goto (-37), 3) := by decide +kernel
theorem dX5_countBits_52 : decode cX5_countBits 52 = .ok (.iload_n 2, 1) := by decide +kernel
theorem dX5_countBits_53 : decode cX5_countBits 53 = .ok (.ireturn, 1) := by decide +kernel
theorem dX5_putTexts_0 : decode cX5_putTexts 0 = .ok (.iload_n 1, 1) := by decide +kernel
theorem dX5_putTexts_1 : decode cX5_putTexts 1 = .ok (.istore_n 2, 1) := by decide +kernel
theorem dX5_putTexts_2 : decode cX5_putTexts 2 = .ok (.iconst 0, 1) := by decide +kernel
theorem dX5_putTexts_3 : decode cX5_putTexts 3 = .ok (.istore_n 3, 1) := by decide +kernel
theorem dX5_putTexts_4 : decode cX5_putTexts 4 = .ok (.iload_n 3, 1) := by decide +kernel
theorem dX5_putTexts_5 : decode cX5_putTexts 5 = .ok (.aload_n 0, 1) := by decide +kernel
theorem dX5_putTexts_6 : decode cX5_putTexts 6 = .ok (.getfield 21, 3) := by decide +kernel
theorem dX5_putTexts_9 : decode cX5_putTexts 9 = .ok (.getfield 85, 3) := by decide +kernel
theorem dX5_putTexts_12 : decode cX5_putTexts 12 = .ok (.if_icmp .ge 57, 3) := by decide +kernel
theorem dX5_putTexts_15 : decode cX5_putTexts 15 = .ok (.aload_n 0, 1) := by decide +kernel
theorem dX5_putTexts_16 : decode cX5_putTexts 16 = .ok (.getfield 21, 3) := by decide +kernel
theorem dX5_putTexts_19 : decode cX5_putTexts 19 = .ok (.getfield 148, 3) := by decide +kernel
theorem dX5_putTexts_22 : decode cX5_putTexts 22 = .ok (.iload_n 3, 1) := by decide +kernel
theorem dX5_putTexts_23 : decode cX5_putTexts 23 = .ok (.iload_n 2, 1) := by decide +kernel
theorem dX5_putTexts_24 : decode cX5_putTexts 24 = .ok (.iastore, 1) := by decide +kernel
theorem dX5_putTexts_25 : decode cX5_putTexts 25 = .ok (.aload_n 0, 1) := by decide +kernel
theorem dX5_putTexts_26 : decode cX5_putTexts 26 = .ok (.getfield 21, 3) := by decide +kernel
theorem dX5_putTexts_29 : decode cX5_putTexts 29 = .ok (.getfield 151, 3) := by decide +kernel
theorem dX5_putTexts_32 : decode cX5_putTexts 32 = .ok (.iload_n 3, 1) := by decide +kernel
theorem dX5_putTexts_33 : decode cX5_putTexts 33 = .ok (.aload_n 0, 1) := by decide +kernel
theorem dX5_putTexts_34 : decode cX5_putTexts 34 = .ok (.getfield 50, 3) := by decide +kernel
theorem dX5_putTexts_37 : decode cX5_putTexts 37 = .ok (.iload_n 3, 1) := by decide +kernel
theorem dX5_putTexts_38 : decode cX5_putTexts 38 = .ok (.iaload, 1) := by decide +kernel
theorem dX5_putTexts_39 : decode cX5_putTexts 39 = .ok (.iastore, 1) := by decide +kernel
theorem dX5_putTexts_40 : decode cX5_putTexts 40 = .ok (.aload_n 0, 1) := by decide +kernel
theorem dX5_putTexts_41 : decode cX5_putTexts 41 = .ok (.iload_n 3, 1) := by decide +kernel
theorem dX5_putTexts_42 : decode cX5_putTexts 42 = .ok (.iload_n 2, 1) := by decide +kernel
theorem dX5_putTexts_43 : decode cX5_putTexts 43 = .ok (.invokevirtual 154, 3) := by decide +kernel
theorem dX5_putTexts_46 : decode cX5_putTexts 46 = .ok (.iload_n 2, 1) := by decide +kernel
theorem dX5_putTexts_47 : decode cX5_putTexts 47 = .ok (.iconst 1, 1) := by decide +kernel
theorem dX5_putTexts_48 : decode cX5_putTexts 48 = .ok (.aload_n 0, 1) := by decide +kernel
theorem dX5_putTexts_49 : decode cX5_putTexts 49 = .ok (.getfield 50, 3) := by decide +kernel
theorem dX5_putTexts_52 : decode cX5_putTexts 52 = .ok (.iload_n 3, 1) := by decide +kernel
theorem dX5_putTexts_53 : decode cX5_putTexts 53 = .ok (.iaload, 1) := by decide +kernel
theorem dX5_putTexts_54 : decode cX5_putTexts 54 = .ok (.bipush 7, 2) := by decide +kernel
theorem dX5_putTexts_56 : decode cX5_putTexts 56 = .ok (.iadd, 1) := by decide +kernel
theorem dX5_putTexts_57 : decode cX5_putTexts 57 = .ok (.bipush 8, 2) := by decide +kernel
theorem dX5_putTexts_59 : decode cX5_putTexts 59 = .ok (.idiv, 1) := by decide +kernel
theorem dX5_putTexts_60 : decode cX5_putTexts 60 = .ok (.iadd, 1) := by decide +kernel
theorem dX5_putTexts_61 : decode cX5_putTexts 61 = .ok (.iadd, 1) := by decide +kernel
theorem dX5_putTexts_62 : decode cX5_putTexts 62 = .ok (.istore_n 2, 1) := by decide +kernel
theorem dX5_putTexts_63 : decode cX5_putTexts 63 = .ok (.iinc 3 1, 3) := by decide +kernel
theorem dX5_putTexts_66 : decode cX5_putTexts 66 = .ok (.goto (-62), 3) := by decide +kernel
theorem dX5_putTexts_69 : decode cX5_putTexts 69 = .ok (.return_, 1) := by decide +kernel
theorem dX5_putText_0 : decode cX5_putText 0 = .ok (.aload_n 0, 1) := by decide +kernel
theorem dX5_putText_1 : decode cX5_putText 1 = .ok (.getfield 63, 3) := by decide +kernel
theorem dX5_putText_4 : decode cX5_putText 4 = .ok (.iload_n 2, 1) := by decide +kernel
theorem dX5_putText_5 : decode cX5_putText 5 = .ok (.sipush 225, 3) := by decide +kernel
theorem dX5_putText_8 : decode cX5_putText 8 = .ok (.invokevirtual 159, 3) := by decide +kernel
theorem dX5_putText_11 : decode cX5_putText 11 = .ok (.iconst 0, 1) := by decide +kernel
theorem dX5_putText_12 : decode cX5_putText 12 = .ok (.istore_n 3, 1) := by decide +kernel
theorem dX5_putText_13 : decode cX5_putText 13 = .ok (.iload_n 3, 1) := by decide +kernel
theorem dX5_putText_14 : decode cX5_putText 14 = .ok (.aload_n 0, 1) := by decide +kernel
theorem dX5_putText_15 : decode cX5_putText 15 = .ok (.getfield 50, 3) := by decide +kernel
theorem dX5_putText_18 : decode cX5_putText 18 = .ok (.iload_n 1, 1) := by decide +kernel
theorem dX5_putText_19 : decode cX5_putText 19 = .ok (.iaload, 1) := by decide +kernel
theorem dX5_putText_20 : decode cX5_putText 20 = .ok (.bipush 7, 2) := by decide +kernel
theorem dX5_putText_22 : decode cX5_putText 22 = .ok (.iadd, 1) := by decide +kernel
theorem dX5_putText_23 : decode cX5_putText 23 = .ok (.bipush 8, 2) := by decide +kernel
theorem dX5_putText_25 : decode cX5_putText 25 = .ok (.idiv, 1) := by decide +kernel
theorem dX5_putText_26 : decode cX5_putText 26 = .ok (.if_icmp .ge 22, 3) := by decide +kernel
theorem dX5_putText_29 : decode cX5_putText 29 = .ok (.aload_n 0, 1) := by decide +kernel
theorem dX5_putText_30 : decode cX5_putText 30 = .ok (.getfield 63, 3) := by decide +kernel
theorem dX5_putText_33 : decode cX5_putText 33 = .ok (.iload_n 2, 1) := by decide +kernel
theorem dX5_putText_34 : decode cX5_putText 34 = .ok (.iconst 1, 1) := by decide +kernel
theorem dX5_putText_35 : decode cX5_putText 35 = .ok (.iadd, 1) := by decide +kernel
theorem dX5_putText_36 : decode cX5_putText 36 = .ok (.iload_n 3, 1) := by decide +kernel
theorem dX5_putText_37 : decode cX5_putText 37 = .ok (.iadd, 1) := by decide +kernel
theorem dX5_putText_38 : decode cX5_putText 38 = .ok (.iconst 0, 1) := by decide +kernel
theorem dX5_putText_39 : decode cX5_putText 39 = .ok (.invokevirtual 159, 3) := by decide +kernel
theorem dX5_putText_42 : decode cX5_putText 42 = .ok (.iinc 3 1, 3) := by decide +kernel
theorem dX5_putText_45 : decode cX5_putText 45 = .ok (.goto (-32), 3) := by decide +kernel
theorem dX5_putText_48 : decode cX5_putText 48 = .ok (.iconst 0, 1) := by decide +kernel
theorem dX5_putText_49 : decode cX5_putText 49 = .ok (.istore_n 3, 1) := by decide +kernel
theorem dX5_putText_50 : decode cX5_putText 50 = .ok (.iconst 0, 1) := by decide +kernel
theorem dX5_putText_51 : decode cX5_putText 51 = .ok (.istore 4, 2) := by decide +kernel
theorem dX5_putText_53 : decode cX5_putText 53 = .ok (.iload 4, 2) := by decide +kernel
theorem dX5_putText_55 : decode cX5_putText 55 = .ok (.aload_n 0, 1) := by decide +kernel
theorem dX5_putText_56 : decode cX5_putText 56 = .ok (.getfield 46, 3) := by decide +kernel
theorem dX5_putText_59 : decode cX5_putText 59 = .ok (.iload_n 1, 1) := by decide +kernel
theorem dX5_putText_60 : decode cX5_putText 60 = .ok (.iaload, 1) := by decide +kernel
theorem dX5_putText_61 : decode cX5_putText 61 = .ok (.if_icmp .ge 32, 3) := by decide +kernel
theorem dX5_putText_64 : decode cX5_putText 64 = .ok (.aload_n 0, 1) := by decide +kernel
theorem dX5_putText_65 : decode cX5_putText 65 = .ok (.aload_n 0, 1) := by decide +kernel
theorem dX5_putText_66 : decode cX5_putText 66 = .ok (.getfield 56, 3) := by decide +kernel
theorem dX5_putText_69 : decode cX5_putText 69 = .ok (.aload_n 0, 1) := by decide +kernel
theorem dX5_putText_70 : decode cX5_putText 70 = .ok (.getfield 43, 3) := by decide +kernel
theorem dX5_putText_73 : decode cX5_putText 73 = .ok (.iload_n 1, 1) := by decide +kernel
theorem dX5_putText_74 : decode cX5_putText 74 = .ok (.aaload, 1) := by decide +kernel
theorem dX5_putText_75 : decode cX5_putText 75 = .ok (.iload 4, 2) := by decide +kernel
theorem dX5_putText_77 : decode cX5_putText 77 = .ok (.iaload, 1) := by decide +kernel
theorem dX5_putText_78 : decode cX5_putText 78 = .ok (.iaload, 1) := by decide +kernel
theorem dX5_putText_79 : decode cX5_putText 79 = .ok (.iload_n 2, 1) := by decide +kernel
theorem dX5_putText_80 : decode cX5_putText 80 = .ok (.iconst 1, 1) := by decide +kernel
theorem dX5_putText_81 : decode cX5_putText 81 = .ok (.iadd, 1) := by decide +kernel
theorem dX5_putText_82 : decode cX5_putText 82 = .ok (.iload_n 3, 1) := by decide +kernel
theorem dX5_putText_83 : decode cX5_putText 83 = .ok (.invokevirtual 162, 3) := by decide +kernel
theorem dX5_putText_86 : decode cX5_putText 86 = .ok (.istore_n 3, 1) := by decide +kernel
theorem dX5_putText_87 : decode cX5_putText 87 = .ok (.iinc 4 1, 3) := by decide +kernel
theorem dX5_putText_90 : decode cX5_putText 90 = .ok (.goto (-37), 3) := by decide +kernel
theorem dX5_putText_93 : decode cX5_putText 93 = .ok (.aload_n 0, 1) := by decide +kernel
theorem dX5_putText_94 : decode cX5_putText 94 = .ok (.iconst 0, 1) := by decide +kernel
theorem dX5_putText_95 : decode cX5_putText 95 = .ok (.iload_n 2, 1) := by decide +kernel
theorem dX5_putText_96 : decode cX5_putText 96 = .ok (.iconst 1, 1) := by decide +kernel
theorem dX5_putText_97 : decode cX5_putText 97 = .ok (.iadd, 1) := by decide +kernel
theorem dX5_putText_98 : decode cX5_putText 98 = .ok (.iload_n 3, 1) := by decide +kernel
theorem dX5_putText_99 : decode cX5_putText 99 = .ok (.invokevirtual 162, 3) := by decide +kernel
theorem dX5_putText_102 : decode cX5_putText 102 = .ok (.pop, 1) := by decide +kernel
theorem dX5_putText_103 : decode cX5_putText 103 = .ok (.return_, 1) := by decide +kernel
theorem dX5_putBits_0 : decode cX5_putBits 0 = .ok (.iload_n 3, 1) := by decide +kernel
theorem dX5_putBits_1 : decode cX5_putBits 1 = .ok (.istore 4, 2) := by decide +kernel
theorem dX5_putBits_3 : decode cX5_putBits 3 = .ok (.iconst 0, 1) := by decide +kernel
theorem dX5_putBits_4 : decode cX5_putBits 4 = .ok (.istore 5, 2) := by decide +kernel
theorem dX5_putBits_6 : decode cX5_putBits 6 = .ok (.iload 5, 2) := by decide +kernel
theorem dX5_putBits_8 : decode cX5_putBits 8 = .ok (.aload_n 0, 1) := by decide +kernel
theorem dX5_putBits_9 : decode cX5_putBits 9 = .ok (.getfield 37, 3) := by decide +kernel
theorem dX5_putBits_12 : decode cX5_putBits 12 = .ok (.getfield 145, 3) := by decide +kernel
theorem dX5_putBits_15 : decode cX5_putBits 15 = .ok (.iload_n 1, 1) := by decide +kernel
theorem dX5_putBits_16 : decode cX5_putBits 16 = .ok (.iaload, 1) := by decide +kernel
theorem dX5_putBits_17 : decode cX5_putBits 17 = .ok (.if_icmp .ge 70, 3) := by decide +kernel
theorem dX5_putBits_20 : decode cX5_putBits 20 = .ok (.aload_n 0, 1) := by decide +kernel
theorem dX5_putBits_21 : decode cX5_putBits 21 = .ok (.getfield 63, 3) := by decide +kernel
theorem dX5_putBits_24 : decode cX5_putBits 24 = .ok (.iload_n 2, 1) := by decide +kernel
theorem dX5_putBits_25 : decode cX5_putBits 25 = .ok (.iload 4, 2) := by decide +kernel
theorem dX5_putBits_27 : decode cX5_putBits 27 = .ok (.bipush 8, 2) := by decide +kernel
theorem dX5_putBits_29 : decode cX5_putBits 29 = .ok (.idiv, 1) := by decide +kernel
theorem dX5_putBits_30 : decode cX5_putBits 30 = .ok (.iadd, 1) := by decide +kernel
theorem dX5_putBits_31 : decode cX5_putBits 31 = .ok (.invokevirtual 166, 3) := by decide +kernel
theorem dX5_putBits_34 : decode cX5_putBits 34 = .ok (.istore 6, 2) := by decide +kernel
theorem dX5_putBits_36 : decode cX5_putBits 36 = .ok (.aload_n 0, 1) := by decide +kernel
theorem dX5_putBits_37 : decode cX5_putBits 37 = .ok (.getfield 37, 3) := by decide +kernel
theorem dX5_putBits_40 : decode cX5_putBits 40 = .ok (.getfield 169, 3) := by decide +kernel
theorem dX5_putBits_43 : decode cX5_putBits 43 = .ok (.iload_n 1, 1) := by decide +kernel
theorem dX5_putBits_44 : decode cX5_putBits 44 = .ok (.laload, 1) := by decide +kernel
theorem dX5_putBits_45 : decode cX5_putBits 45 = .ok (.iload 5, 2) := by decide +kernel
theorem dX5_putBits_47 : decode cX5_putBits 47 = .ok (.lshr, 1) := by decide +kernel
theorem dX5_putBits_48 : decode cX5_putBits 48 = .ok (.lconst 1, 1) := by decide +kernel
theorem dX5_putBits_49 : decode cX5_putBits 49 = .ok (.land, 1) := by decide +kernel
theorem dX5_putBits_50 : decode cX5_putBits 50 = .ok (.l2i, 1) := by decide +kernel
theorem dX5_putBits_51 : decode cX5_putBits 51 = .ok (.istore 7, 2) := by decide +kernel
theorem dX5_putBits_53 : decode cX5_putBits 53 = .ok (.aload_n 0, 1) := by decide +kernel
theorem dX5_putBits_54 : decode cX5_putBits 54 = .ok (.getfield 63, 3) := by decide +kernel
theorem dX5_putBits_57 : decode cX5_putBits 57 = .ok (.iload_n 2, 1) := by decide +kernel
theorem dX5_putBits_58 : decode cX5_putBits 58 = .ok (.iload 4, 2) := by decide +kernel
theorem dX5_putBits_60 : decode cX5_putBits 60 = .ok (.bipush 8, 2) := by decide +kernel
theorem dX5_putBits_62 : decode cX5_putBits 62 = .ok (.idiv, 1) := by decide +kernel
theorem dX5_putBits_63 : decode cX5_putBits 63 = .ok (.iadd, 1) := by decide +kernel
theorem dX5_putBits_64 : decode cX5_putBits 64 = .ok (.iload 6, 2) := by decide +kernel
theorem dX5_putBits_66 : decode cX5_putBits 66 = .ok (.iload 7, 2) := by decide +kernel
theorem dX5_putBits_68 : decode cX5_putBits 68 = .ok (.iload 4, 2) := by decide +kernel
theorem dX5_putBits_70 : decode cX5_putBits 70 = .ok (.bipush 8, 2) := by decide +kernel
theorem dX5_putBits_72 : decode cX5_putBits 72 = .ok (.irem, 1) := by decide +kernel
theorem dX5_putBits_73 : decode cX5_putBits 73 = .ok (.ishl, 1) := by decide +kernel
theorem dX5_putBits_74 : decode cX5_putBits 74 = .ok (.ior, 1) := by decide +kernel
theorem dX5_putBits_75 : decode cX5_putBits 75 = .ok (.invokevirtual 159, 3) := by decide +kernel
theorem dX5_putBits_78 : decode cX5_putBits 78 = .ok (.iinc 4 1, 3) := by decide +kernel
theorem dX5_putBits_81 : decode cX5_putBits 81 = .ok (.iinc 5 1, 3) := by decide +kernel
theorem dX5_putBits_84 : decode cX5_putBits 84 = .ok (.goto (-78), 3) := by decide +kernel
theorem dX5_putBits_87 : decode cX5_putBits 87 = .ok (.iload 4, 2) := by decide +kernel
theorem dX5_putBits_89 : decode cX5_putBits 89 = .ok (.ireturn, 1) := by decide +kernel
theorem dX5_keepBits_0 : decode cX5_keepBits 0 = .ok (.aload_n 0, 1) := by decide +kernel
theorem dX5_keepBits_1 : decode cX5_keepBits 1 = .ok (.aload_n 0, 1) := by decide +kernel
theorem dX5_keepBits_2 : decode cX5_keepBits 2 = .ok (.getfield 37, 3) := by decide +kernel
theorem dX5_keepBits_5 : decode cX5_keepBits 5 = .ok (.getfield 145, 3) := by decide +kernel
theorem dX5_keepBits_8 : decode cX5_keepBits 8 = .ok (.iconst 0, 1) := by decide +kernel
theorem dX5_keepBits_9 : decode cX5_keepBits 9 = .ok (.iaload, 1) := by decide +kernel
theorem dX5_keepBits_10 : decode cX5_keepBits 10 = .ok (.putfield 59, 3) := by decide +kernel
theorem dX5_keepBits_13 : decode cX5_keepBits 13 = .ok (.iconst 1, 1) := by decide +kernel
theorem dX5_keepBits_14 : decode cX5_keepBits 14 = .ok (.istore_n 1, 1) := by decide +kernel
theorem dX5_keepBits_15 : decode cX5_keepBits 15 = .ok (.iload_n 1, 1) := by decide +kernel
theorem dX5_keepBits_16 : decode cX5_keepBits 16 = .ok (.aload_n 0, 1) := by decide +kernel
theorem dX5_keepBits_17 : decode cX5_keepBits 17 = .ok (.getfield 37, 3) := by decide +kernel
theorem dX5_keepBits_20 : decode cX5_keepBits 20 = .ok (.getfield 173, 3) := by decide +kernel
theorem dX5_keepBits_23 : decode cX5_keepBits 23 = .ok (.if_icmp .ge 52, 3) := by decide +kernel
theorem dX5_keepBits_26 : decode cX5_keepBits 26 = .ok (.aload_n 0, 1) := by decide +kernel
theorem dX5_keepBits_27 : decode cX5_keepBits 27 = .ok (.getfield 37, 3) := by decide +kernel
theorem dX5_keepBits_30 : decode cX5_keepBits 30 = .ok (.getfield 176, 3) := by decide +kernel
theorem dX5_keepBits_33 : decode cX5_keepBits 33 = .ok (.iload_n 1, 1) := by decide +kernel
theorem dX5_keepBits_34 : decode cX5_keepBits 34 = .ok (.iaload, 1) := by decide +kernel
theorem dX5_keepBits_35 : decode cX5_keepBits 35 = .ok (.istore_n 2, 1) := by decide +kernel
theorem dX5_keepBits_36 : decode cX5_keepBits 36 = .ok (.iload_n 2, 1) := by decide +kernel
theorem dX5_keepBits_37 : decode cX5_keepBits 37 = .ok (.ifCond .lt 32, 3) := by decide +kernel
theorem dX5_keepBits_40 : decode cX5_keepBits 40 = .ok (.iload_n 2, 1) := by decide +kernel
theorem dX5_keepBits_41 : decode cX5_keepBits 41 = .ok (.aload_n 0, 1) := by decide +kernel
theorem dX5_keepBits_42 : decode cX5_keepBits 42 = .ok (.getfield 12, 3) := by decide +kernel
theorem dX5_keepBits_45 : decode cX5_keepBits 45 = .ok (.getfield 137, 3) := by decide +kernel
theorem dX5_keepBits_48 : decode cX5_keepBits 48 = .ok (.if_icmp .ge 21, 3) := by decide +kernel
theorem dX5_keepBits_51 : decode cX5_keepBits 51 = .ok (.aload_n 0, 1) := by decide +kernel
theorem dX5_keepBits_52 : decode cX5_keepBits 52 = .ok (.getfield 12, 3) := by decide +kernel
theorem dX5_keepBits_55 : decode cX5_keepBits 55 = .ok (.getfield 179, 3) := by decide +kernel
theorem dX5_keepBits_58 : decode cX5_keepBits 58 = .ok (.iload_n 2, 1) := by decide +kernel
theorem dX5_keepBits_59 : decode cX5_keepBits 59 = .ok (.aload_n 0, 1) := by decide +kernel
theorem dX5_keepBits_60 : decode cX5_keepBits 60 = .ok (.getfield 37, 3) := by decide +kernel
theorem dX5_keepBits_63 : decode cX5_keepBits 63 = .ok (.getfield 145, 3) := by decide +kernel
theorem dX5_keepBits_66 : decode cX5_keepBits 66 = .ok (.iload_n 1, 1) := by decide +kernel
theorem dX5_keepBits_67 : decode cX5_keepBits 67 = .ok (.iaload, 1) := by decide +kernel
theorem dX5_keepBits_68 : decode cX5_keepBits 68 = .ok (.iastore, 1) := by decide +kernel
theorem dX5_keepBits_69 : decode cX5_keepBits 69 = .ok (.iinc 1 1, 3) := by decide +kernel
theorem dX5_keepBits_72 : decode cX5_keepBits 72 = .ok (.goto (-57), 3) := by decide +kernel
theorem dX5_keepBits_75 : decode cX5_keepBits 75 = .ok (.return_, 1) := by decide +kernel
theorem dX6_init_0 : decode cX6_init 0 = .ok (.aload_n 0, 1) := by decide +kernel
theorem dX6_init_1 : decode cX6_init 1 = .ok (.invokespecial 3, 3) := by decide +kernel
theorem dX6_init_4 : decode cX6_init 4 = .ok (.aload_n 0, 1) := by decide +kernel
theorem dX6_init_5 : decode cX6_init 5 = .ok (.bipush 121, 2) := by decide +kernel
theorem dX6_init_7 : decode cX6_init 7 = .ok (.newarray .int, 2) := by decide +kernel
theorem dX6_init_9 : decode cX6_init 9 = .ok (.putfield 9, 3) := by decide +kernel
theorem dX6_init_12 : decode cX6_init 12 = .ok (.aload_n 0, 1) := by decide +kernel
theorem dX6_init_13 : decode cX6_init 13 = .ok (.bipush 121, 2) := by decide +kernel
theorem dX6_init_15 : decode cX6_init 15 = .ok (.newarray .int, 2) := by decide +kernel
theorem dX6_init_17 : decode cX6_init 17 = .ok (.putfield 15, 3) := by decide +kernel
theorem dX6_init_20 : decode cX6_init 20 = .ok (.aload_n 0, 1) := by decide +kernel
theorem dX6_init_21 : decode cX6_init 21 = .ok (.aload_n 1, 1) := by decide +kernel
theorem dX6_init_22 : decode cX6_init 22 = .ok (.putfield 18, 3) := by decide +kernel
theorem dX6_init_25 : decode cX6_init 25 = .ok (.return_, 1) := by decide +kernel
theorem dX6_part_0 : decode cX6_part 0 = .ok (.iload_n 2, 1) := by decide +kernel
theorem dX6_part_1 : decode cX6_part 1 = .ok (.ifCond .lt 15, 3) := by decide +kernel
theorem dX6_part_4 : decode cX6_part 4 = .ok (.iload_n 2, 1) := by decide +kernel
theorem dX6_part_5 : decode cX6_part 5 = .ok (.bipush 120, 2) := by decide +kernel
theorem dX6_part_7 : decode cX6_part 7 = .ok (.if_icmp .gt 9, 3) := by decide +kernel
theorem dX6_part_10 : decode cX6_part 10 = .ok (.iload_n 2, 1) := by decide +kernel
theorem dX6_part_11 : decode cX6_part 11 = .ok (.aload_n 1, 1) := by decide +kernel
theorem dX6_part_12 : decode cX6_part 12 = .ok (.arraylength, 1) := by decide +kernel
theorem dX6_part_13 : decode cX6_part 13 = .ok (.if_icmp .le 5, 3) := by decide +kernel
theorem dX6_part_16 : decode cX6_part 16 = .ok (.iconst (-1), 1) := by decide +kernel
theorem dX6_part_17 : decode cX6_part 17 = .ok (.ireturn, 1) := by decide +kernel
theorem dX6_part_18 : decode cX6_part 18 = .ok (.aload_n 0, 1) := by decide +kernel
theorem dX6_part_19 : decode cX6_part 19 = .ok (.getfield 9, 3) := by decide +kernel
theorem dX6_part_22 : decode cX6_part 22 = .ok (.iload_n 2, 1) := by decide +kernel
theorem dX6_part_23 : decode cX6_part 23 = .ok (.iconst 0, 1) := by decide +kernel
theorem dX6_part_24 : decode cX6_part 24 = .ok (.iastore, 1) := by decide +kernel
theorem dX6_part_25 : decode cX6_part 25 = .ok (.iload_n 2, 1) := by decide +kernel
theorem dX6_part_26 : decode cX6_part 26 = .ok (.iconst 1, 1) := by decide +kernel
theorem dX6_part_27 : decode cX6_part 27 = .ok (.isub, 1) := by decide +kernel
theorem dX6_part_28 : decode cX6_part 28 = .ok (.istore_n 3, 1) := by decide +kernel
theorem dX6_part_29 : decode cX6_part 29 = .ok (.iload_n 3, 1) := by decide +kernel
theorem dX6_part_30 : decode cX6_part 30 = .ok (.ifCond .lt 16, 3) := by decide +kernel
theorem dX6_part_33 : decode cX6_part 33 = .ok (.aload_n 0, 1) := by decide +kernel
theorem dX6_part_34 : decode cX6_part 34 = .ok (.aload_n 1, 1) := by decide +kernel
theorem dX6_part_35 : decode cX6_part 35 = .ok (.iload_n 3, 1) := by decide +kernel
theorem dX6_part_36 : decode cX6_part 36 = .ok (.iload_n 2, 1) := by decide +kernel
theorem dX6_part_37 : decode cX6_part 37 = .ok (.invokevirtual 22, 3) := by decide +kernel
theorem dX6_part_40 : decode cX6_part 40 = .ok (.iinc 3 (-1), 3) := by decide +kernel
theorem dX6_part_43 : decode cX6_part 43 = .ok (.goto (-14), 3) := by decide +kernel
theorem dX6_part_46 : decode cX6_part 46 = .ok (.aload_n 0, 1) := by decide +kernel
theorem dX6_part_47 : decode cX6_part 47 = .ok (.getfield 9, 3) := by decide +kernel
theorem dX6_part_50 : decode cX6_part 50 = .ok (.iconst 0, 1) := by decide +kernel
theorem dX6_part_51 : decode cX6_part 51 = .ok (.iaload, 1) := by decide +kernel
theorem dX6_part_52 : decode cX6_part 52 = .ok (.bipush 121, 2) := by decide +kernel
theorem dX6_part_54 : decode cX6_part 54 = .ok (.if_icmp .ge 12, 3) := by decide +kernel
theorem dX6_part_57 : decode cX6_part 57 = .ok (.aload_n 0, 1) := by decide +kernel
theorem dX6_part_58 : decode cX6_part 58 = .ok (.getfield 9, 3) := by decide +kernel
theorem dX6_part_61 : decode cX6_part 61 = .ok (.iconst 0, 1) := by decide +kernel
theorem dX6_part_62 : decode cX6_part 62 = .ok (.iaload, 1) := by decide +kernel
theorem dX6_part_63 : decode cX6_part 63 = .ok (.goto 4, 3) := by decide +kernel
theorem dX6_part_66 : decode cX6_part 66 = .ok (.iconst (-1), 1) := by decide +kernel
theorem dX6_part_67 : decode cX6_part 67 = .ok (.ireturn, 1) := by decide +kernel
theorem dX6_choose_0 : decode cX6_choose 0 = .ok (.aload_n 0, 1) := by decide +kernel
theorem dX6_choose_1 : decode cX6_choose 1 = .ok (.getfield 9, 3) := by decide +kernel
theorem dX6_choose_4 : decode cX6_choose 4 = .ok (.iload_n 2, 1) := by decide +kernel
theorem dX6_choose_5 : decode cX6_choose 5 = .ok (.bipush 121, 2) := by decide +kernel
theorem dX6_choose_7 : decode cX6_choose 7 = .ok (.iastore, 1) := by decide +kernel
theorem dX6_choose_8 : decode cX6_choose 8 = .ok (.aload_n 0, 1) := by decide +kernel
theorem dX6_choose_9 : decode cX6_choose 9 = .ok (.getfield 15, 3) := by decide +kernel
theorem dX6_choose_12 : decode cX6_choose 12 = .ok (.iload_n 2, 1) := by decide +kernel
theorem dX6_choose_13 : decode cX6_choose 13 = .ok (.iconst (-1), 1) := by decide +kernel
theorem dX6_choose_14 : decode cX6_choose 14 = .ok (.iastore, 1) := by decide +kernel
theorem dX6_choose_15 : decode cX6_choose 15 = .ok (.iconst 0, 1) := by decide +kernel
theorem dX6_choose_16 : decode cX6_choose 16 = .ok (.istore 4, 2) := by decide +kernel
theorem dX6_choose_18 : decode cX6_choose 18 = .ok (.iconst 0, 1) := by decide +kernel
theorem dX6_choose_19 : decode cX6_choose 19 = .ok (.istore 5, 2) := by decide +kernel
theorem dX6_choose_21 : decode cX6_choose 21 = .ok (.iload 5, 2) := by decide +kernel
theorem dX6_choose_23 : decode cX6_choose 23 = .ok (.aload_n 0, 1) := by decide +kernel
theorem dX6_choose_24 : decode cX6_choose 24 = .ok (.getfield 18, 3) := by decide +kernel
theorem dX6_choose_27 : decode cX6_choose 27 = .ok (.getfield 26, 3) := by decide +kernel
theorem dX6_choose_30 : decode cX6_choose 30 = .ok (.if_icmp .ge 120, 3) := by decide +kernel
theorem dX6_choose_33 : decode cX6_choose 33 = .ok (.aload_n 0, 1) := by decide +kernel
theorem dX6_choose_34 : decode cX6_choose 34 = .ok (.getfield 18, 3) := by decide +kernel
theorem dX6_choose_37 : decode cX6_choose 37 = .ok (.iload 5, 2) := by decide +kernel
theorem dX6_choose_39 : decode cX6_choose 39 = .ok (.aload_n 1, 1) := by decide +kernel
theorem dX6_choose_40 : decode cX6_choose 40 = .ok (.iload_n 2, 1) := by decide +kernel
theorem dX6_choose_41 : decode cX6_choose 41 = .ok (.iload_n 3, 1) := by decide +kernel
theorem dX6_choose_42 : decode cX6_choose 42 = .ok (.invokevirtual 32, 3) := by decide +kernel
theorem dX6_choose_45 : decode cX6_choose 45 = .ok (.ifCond .ne 6, 3) := by decide +kernel
theorem dX6_choose_48 : decode cX6_choose 48 = .ok (.goto 96, 3) := by decide +kernel
theorem dX6_choose_51 : decode cX6_choose 51 = .ok (.aload_n 0, 1) := by decide +kernel
theorem dX6_choose_52 : decode cX6_choose 52 = .ok (.getfield 18, 3) := by decide +kernel
theorem dX6_choose_55 : decode cX6_choose 55 = .ok (.getfield 36, 3) := by decide +kernel
theorem dX6_choose_58 : decode cX6_choose 58 = .ok (.iload 5, 2) := by decide +kernel
theorem dX6_choose_60 : decode cX6_choose 60 = .ok (.iaload, 1) := by decide +kernel
theorem dX6_choose_61 : decode cX6_choose 61 = .ok (.istore 6, 2) := by decide +kernel
theorem dX6_choose_63 : decode cX6_choose 63 = .ok (.aload_n 0, 1) := by decide +kernel
theorem dX6_choose_64 : decode cX6_choose 64 = .ok (.getfield 9, 3) := by decide +kernel
theorem dX6_choose_67 : decode cX6_choose 67 = .ok (.iload_n 2, 1) := by decide +kernel
theorem dX6_choose_68 : decode cX6_choose 68 = .ok (.iload 6, 2) := by decide +kernel
theorem dX6_choose_70 : decode cX6_choose 70 = .ok (.iadd, 1) := by decide +kernel
theorem dX6_choose_71 : decode cX6_choose 71 = .ok (.iaload, 1) := by decide +kernel
theorem dX6_choose_72 : decode cX6_choose 72 = .ok (.iconst 1, 1) := by decide +kernel
theorem dX6_choose_73 : decode cX6_choose 73 = .ok (.iadd, 1) := by decide +kernel
theorem dX6_choose_74 : decode cX6_choose 74 = .ok (.istore 7, 2) := by decide +kernel
theorem dX6_choose_76 : decode cX6_choose 76 = .ok (.iload 7, 2) := by decide +kernel
theorem dX6_choose_78 : decode cX6_choose 78 = .ok (.aload_n 0, 1) := by decide +kernel
theorem dX6_choose_79 : decode cX6_choose 79 = .ok (.getfield 9, 3) := by decide +kernel
theorem dX6_choose_82 : decode cX6_choose 82 = .ok (.iload_n 2, 1) := by decide +kernel
theorem dX6_choose_83 : decode cX6_choose 83 = .ok (.iaload, 1) := by decide +kernel
theorem dX6_choose_84 : decode cX6_choose 84 = .ok (.if_icmp .lt 21, 3) := by decide +kernel
theorem dX6_choose_87 : decode cX6_choose 87 = .ok (.iload 7, 2) := by decide +kernel
theorem dX6_choose_89 : decode cX6_choose 89 = .ok (.aload_n 0, 1) := by decide +kernel
theorem dX6_choose_90 : decode cX6_choose 90 = .ok (.getfield 9, 3) := by decide +kernel
theorem dX6_choose_93 : decode cX6_choose 93 = .ok (.iload_n 2, 1) := by decide +kernel
theorem dX6_choose_94 : decode cX6_choose 94 = .ok (.iaload, 1) := by decide +kernel
theorem dX6_choose_95 : decode cX6_choose 95 = .ok (.if_icmp .ne 14, 3) := by decide +kernel
theorem dX6_choose_98 : decode cX6_choose 98 = .ok (.iload 6, 2) := by decide +kernel
theorem dX6_choose_100 : decode cX6_choose 100 = .ok (.iload 4, 2) := by decide +kernel
theorem dX6_choose_102 : decode cX6_choose 102 = .ok (.if_icmp .le 7, 3) := by decide +kernel
theorem dX6_choose_105 : decode cX6_choose 105 = .ok (.iconst 1, 1) := by decide +kernel
theorem dX6_choose_106 : decode cX6_choose 106 = .ok (.goto 4, 3) := by decide +kernel
theorem dX6_choose_109 : decode cX6_choose 109 = .ok (.iconst 0, 1) := by decide +kernel
theorem dX6_choose_110 : decode cX6_choose 110 = .ok (.istore 8, 2) := by decide +kernel
theorem dX6_choose_112 : decode cX6_choose 112 = .ok (.iload 7, 2) := by decide +kernel
theorem dX6_choose_114 : decode cX6_choose 114 = .ok (.bipush 121, 2) := by decide +kernel
theorem dX6_choose_116 : decode cX6_choose 116 = .ok (.if_icmp .ge 28, 3) := by decide +kernel
theorem dX6_choose_119 : decode cX6_choose 119 = .ok (.iload 8, 2) := by decide +kernel
theorem dX6_choose_121 : decode cX6_choose 121 = .ok (.ifCond .eq 23, 3) := by decide +kernel
theorem dX6_choose_124 : decode cX6_choose 124 = .ok (.aload_n 0, 1) := by decide +kernel
theorem dX6_choose_125 : decode cX6_choose 125 = .ok (.getfield 9, 3) := by decide +kernel
theorem dX6_choose_128 : decode cX6_choose 128 = .ok (.iload_n 2, 1) := by decide +kernel
theorem dX6_choose_129 : decode cX6_choose 129 = .ok (.iload 7, 2) := by decide +kernel
theorem dX6_choose_131 : decode cX6_choose 131 = .ok (.iastore, 1) := by decide +kernel
theorem dX6_choose_132 : decode cX6_choose 132 = .ok (.aload_n 0, 1) := by decide +kernel
theorem dX6_choose_133 : decode cX6_choose 133 = .ok (.getfield 15, 3) := by decide +kernel
theorem dX6_choose_136 : decode cX6_choose 136 = .ok (.iload_n 2, 1) := by decide +kernel
theorem dX6_choose_137 : decode cX6_choose 137 = .ok (.iload 5, 2) := by decide +kernel
theorem dX6_choose_139 : decode cX6_choose 139 = .ok (.iastore, 1) := by decide +kernel
theorem dX6_choose_140 : decode cX6_choose 140 = .ok (.iload 6, 2) := by decide +kernel
theorem dX6_choose_142 : decode cX6_choose 142 = .ok (.istore 4, 2) := by decide +kernel
theorem dX6_choose_144 : decode cX6_choose 144 = .ok (.iinc 5 1, 3) := by decide +kernel
theorem dX6_choose_147 : decode cX6_choose 147 = .ok (.goto (-126), 3) := by decide +kernel
theorem dX6_choose_150 : decode cX6_choose 150 = .ok (.return_, 1) := by decide +kernel
theorem dX6_copyPieces_0 : decode cX6_copyPieces 0 = .ok (.iconst 0, 1) := by decide +kernel
theorem dX6_copyPieces_1 : decode cX6_copyPieces 1 = .ok (.istore_n 3, 1) := by decide +kernel
theorem dX6_copyPieces_2 : decode cX6_copyPieces 2 = .ok (.iconst 0, 1) := by decide +kernel
theorem dX6_copyPieces_3 : decode cX6_copyPieces 3 = .ok (.istore 4, 2) := by decide +kernel
theorem dX6_copyPieces_5 : decode cX6_copyPieces 5 = .ok (.iload 4, 2) := by decide +kernel
theorem dX6_copyPieces_7 : decode cX6_copyPieces 7 = .ok (.iload_n 1, 1) := by decide +kernel
theorem dX6_copyPieces_8 : decode cX6_copyPieces 8 = .ok (.if_icmp .ge 72, 3) := by decide +kernel
theorem dX6_copyPieces_11 : decode cX6_copyPieces 11 = .ok (.iload 4, 2) := by decide +kernel
theorem dX6_copyPieces_13 : decode cX6_copyPieces 13 = .ok (.bipush 120, 2) := by decide +kernel
theorem dX6_copyPieces_15 : decode cX6_copyPieces 15 = .ok (.if_icmp .ge 65, 3) := by decide +kernel
theorem dX6_copyPieces_18 : decode cX6_copyPieces 18 = .ok (.iload_n 3, 1) := by decide +kernel
theorem dX6_copyPieces_19 : decode cX6_copyPieces 19 = .ok (.aload_n 2, 1) := by decide +kernel
theorem dX6_copyPieces_20 : decode cX6_copyPieces 20 = .ok (.arraylength, 1) := by decide +kernel
theorem dX6_copyPieces_21 : decode cX6_copyPieces 21 = .ok (.if_icmp .ge 59, 3) := by decide +kernel
theorem dX6_copyPieces_24 : decode cX6_copyPieces 24 = .ok (.aload_n 0, 1) := by decide +kernel
theorem dX6_copyPieces_25 : decode cX6_copyPieces 25 = .ok (.getfield 15, 3) := by decide +kernel
theorem dX6_copyPieces_28 : decode cX6_copyPieces 28 = .ok (.iload 4, 2) := by decide +kernel
theorem dX6_copyPieces_30 : decode cX6_copyPieces 30 = .ok (.iaload, 1) := by decide +kernel
theorem dX6_copyPieces_31 : decode cX6_copyPieces 31 = .ok (.istore 5, 2) := by decide +kernel
theorem dX6_copyPieces_33 : decode cX6_copyPieces 33 = .ok (.iload 5, 2) := by decide +kernel
theorem dX6_copyPieces_35 : decode cX6_copyPieces 35 = .ok (.ifCond .lt 17, 3) := by decide +kernel
theorem dX6_copyPieces_38 : decode cX6_copyPieces 38 = .ok (.aload_n 0, 1) := by decide +kernel
theorem dX6_copyPieces_39 : decode cX6_copyPieces 39 = .ok (.getfield 18, 3) := by decide +kernel
theorem dX6_copyPieces_42 : decode cX6_copyPieces 42 = .ok (.getfield 36, 3) := by decide +kernel
theorem dX6_copyPieces_45 : decode cX6_copyPieces 45 = .ok (.iload 5, 2) := by decide +kernel
theorem dX6_copyPieces_47 : decode cX6_copyPieces 47 = .ok (.iaload, 1) := by decide +kernel
theorem dX6_copyPieces_48 : decode cX6_copyPieces 48 = .ok (.iconst 1, 1) := by decide +kernel
theorem dX6_copyPieces_49 : decode cX6_copyPieces 49 = .ok (.if_icmp .ge 5, 3) := by decide +kernel
theorem dX6_copyPieces_52 : decode cX6_copyPieces 52 = .ok (.iload_n 3, 1) := by decide +kernel
theorem dX6_copyPieces_53 : decode cX6_copyPieces 53 = .ok (.ireturn, 1) := by decide +kernel
theorem dX6_copyPieces_54 : decode cX6_copyPieces 54 = .ok (.aload_n 2, 1) := by decide +kernel
theorem dX6_copyPieces_55 : decode cX6_copyPieces 55 = .ok (.iload_n 3, 1) := by decide +kernel
theorem dX6_copyPieces_56 : decode cX6_copyPieces 56 = .ok (.iload 5, 2) := by decide +kernel
theorem dX6_copyPieces_58 : decode cX6_copyPieces 58 = .ok (.iastore, 1) := by decide +kernel
theorem dX6_copyPieces_59 : decode cX6_copyPieces 59 = .ok (.iinc 3 1, 3) := by decide +kernel
theorem dX6_copyPieces_62 : decode cX6_copyPieces 62 = .ok (.iload 4, 2) := by decide +kernel
theorem dX6_copyPieces_64 : decode cX6_copyPieces 64 = .ok (.aload_n 0, 1) := by decide +kernel
theorem dX6_copyPieces_65 : decode cX6_copyPieces 65 = .ok (.getfield 18, 3) := by decide +kernel
theorem dX6_copyPieces_68 : decode cX6_copyPieces 68 = .ok (.getfield 36, 3) := by decide +kernel
theorem dX6_copyPieces_71 : decode cX6_copyPieces 71 = .ok (.iload 5, 2) := by decide +kernel
theorem dX6_copyPieces_73 : decode cX6_copyPieces 73 = .ok (.iaload, 1) := by decide +kernel
theorem dX6_copyPieces_74 : decode cX6_copyPieces 74 = .ok (.iadd, 1) := by decide +kernel
theorem dX6_copyPieces_75 : decode cX6_copyPieces 75 = .ok (.istore 4, 2) := by decide +kernel
theorem dX6_copyPieces_77 : decode cX6_copyPieces 77 = .ok (.goto (-72), 3) := by decide +kernel
theorem dX6_copyPieces_80 : decode cX6_copyPieces 80 = .ok (.iload_n 3, 1) := by decide +kernel
theorem dX6_copyPieces_81 : decode cX6_copyPieces 81 = .ok (.ireturn, 1) := by decide +kernel
theorem dX7_init_0 : decode cX7_init 0 = .ok (.aload_n 0, 1) := by decide +kernel
theorem dX7_init_1 : decode cX7_init 1 = .ok (.invokespecial 3, 3) := by decide +kernel
theorem dX7_init_4 : decode cX7_init 4 = .ok (.aload_n 0, 1) := by decide +kernel
theorem dX7_init_5 : decode cX7_init 5 = .ok (.bipush 60, 2) := by decide +kernel
theorem dX7_init_7 : decode cX7_init 7 = .ok (.newarray .int, 2) := by decide +kernel
theorem dX7_init_9 : decode cX7_init 9 = .ok (.putfield 11, 3) := by decide +kernel
theorem dX7_init_12 : decode cX7_init 12 = .ok (.aload_n 0, 1) := by decide +kernel
theorem dX7_init_13 : decode cX7_init 13 = .ok (.bipush 60, 2) := by decide +kernel
theorem dX7_init_15 : decode cX7_init 15 = .ok (.newarray .int, 2) := by decide +kernel
theorem dX7_init_17 : decode cX7_init 17 = .ok (.putfield 15, 3) := by decide +kernel
theorem dX7_init_20 : decode cX7_init 20 = .ok (.aload_n 0, 1) := by decide +kernel
theorem dX7_init_21 : decode cX7_init 21 = .ok (.bipush 60, 2) := by decide +kernel
theorem dX7_init_23 : decode cX7_init 23 = .ok (.bipush 20, 2) := by decide +kernel
theorem dX7_init_25 : decode cX7_init 25 = .ok (.multianewarray 18 2, 4) := by decide +kernel
theorem dX7_init_29 : decode cX7_init 29 = .ok (.putfield 20, 3) := by decide +kernel
theorem dX7_init_32 : decode cX7_init 32 = .ok (.aload_n 0, 1) := by decide +kernel
theorem dX7_init_33 : decode cX7_init 33 = .ok (.bipush 60, 2) := by decide +kernel
theorem dX7_init_35 : decode cX7_init 35 = .ok (.newarray .int, 2) := by decide +kernel
theorem dX7_init_37 : decode cX7_init 37 = .ok (.putfield 23, 3) := by decide +kernel
theorem dX7_init_40 : decode cX7_init 40 = .ok (.aload_n 0, 1) := by decide +kernel
theorem dX7_init_41 : decode cX7_init 41 = .ok (.bipush 60, 2) := by decide +kernel
theorem dX7_init_43 : decode cX7_init 43 = .ok (.newarray .int, 2) := by decide +kernel
theorem dX7_init_45 : decode cX7_init 45 = .ok (.putfield 26, 3) := by decide +kernel
theorem dX7_init_48 : decode cX7_init 48 = .ok (.aload_n 0, 1) := by decide +kernel
theorem dX7_init_49 : decode cX7_init 49 = .ok (.iconst 0, 1) := by decide +kernel
theorem dX7_init_50 : decode cX7_init 50 = .ok (.putfield 29, 3) := by decide +kernel
theorem dX7_init_53 : decode cX7_init 53 = .ok (.return_, 1) := by decide +kernel
theorem dX7_isPiece_0 : decode cX7_isPiece 0 = .ok (.iload_n 0, 1) := by decide +kernel
theorem dX7_isPiece_1 : decode cX7_isPiece 1 = .ok (.tableswitch 150 2 9 #[47, 67, 93, 113, 150, 150, 139, 139], 47) := by decide +kernel
theorem dX7_isPiece_48 : decode cX7_isPiece 48 = .ok (.iload_n 2, 1) := by decide +kernel
theorem dX7_isPiece_49 : decode cX7_isPiece 49 = .ok (.iconst 1, 1) := by decide +kernel
theorem dX7_isPiece_50 : decode cX7_isPiece 50 = .ok (.if_icmp .ne 16, 3) := by decide +kernel
theorem dX7_isPiece_53 : decode cX7_isPiece 53 = .ok (.aload_n 1, 1) := by decide +kernel
theorem dX7_isPiece_54 : decode cX7_isPiece 54 = .ok (.iload_n 2, 1) := by decide +kernel
theorem dX7_isPiece_55 : decode cX7_isPiece 55 = .ok (.iconst 1, 1) := by decide +kernel
theorem dX7_isPiece_56 : decode cX7_isPiece 56 = .ok (.invokestatic 33, 3) := by decide +kernel
theorem dX7_isPiece_59 : decode cX7_isPiece 59 = .ok (.ifCond .eq 7, 3) := by decide +kernel
theorem dX7_isPiece_62 : decode cX7_isPiece 62 = .ok (.iconst 1, 1) := by decide +kernel
theorem dX7_isPiece_63 : decode cX7_isPiece 63 = .ok (.goto 4, 3) := by decide +kernel
theorem dX7_isPiece_66 : decode cX7_isPiece 66 = .ok (.iconst 0, 1) := by decide +kernel
theorem dX7_isPiece_67 : decode cX7_isPiece 67 = .ok (.ireturn, 1) := by decide +kernel
theorem dX7_isPiece_68 : decode cX7_isPiece 68 = .ok (.iload_n 2, 1) := by decide +kernel
theorem dX7_isPiece_69 : decode cX7_isPiece 69 = .ok (.iconst 2, 1) := by decide +kernel
theorem dX7_isPiece_70 : decode cX7_isPiece 70 = .ok (.if_icmp .lt 22, 3) := by decide +kernel
theorem dX7_isPiece_73 : decode cX7_isPiece 73 = .ok (.iload_n 2, 1) := by decide +kernel
theorem dX7_isPiece_74 : decode cX7_isPiece 74 = .ok (.bipush 20, 2) := by decide +kernel
theorem dX7_isPiece_76 : decode cX7_isPiece 76 = .ok (.if_icmp .gt 16, 3) := by decide +kernel
theorem dX7_isPiece_79 : decode cX7_isPiece 79 = .ok (.aload_n 1, 1) := by decide +kernel
theorem dX7_isPiece_80 : decode cX7_isPiece 80 = .ok (.iload_n 2, 1) := by decide +kernel
theorem dX7_isPiece_81 : decode cX7_isPiece 81 = .ok (.iconst 1, 1) := by decide +kernel
theorem dX7_isPiece_82 : decode cX7_isPiece 82 = .ok (.invokestatic 33, 3) := by decide +kernel
theorem dX7_isPiece_85 : decode cX7_isPiece 85 = .ok (.ifCond .eq 7, 3) := by decide +kernel
theorem dX7_isPiece_88 : decode cX7_isPiece 88 = .ok (.iconst 1, 1) := by decide +kernel
theorem dX7_isPiece_89 : decode cX7_isPiece 89 = .ok (.goto 4, 3) := by decide +kernel
theorem dX7_isPiece_92 : decode cX7_isPiece 92 = .ok (.iconst 0, 1) := by decide +kernel
theorem dX7_isPiece_93 : decode cX7_isPiece 93 = .ok (.ireturn, 1) := by decide +kernel
theorem dX7_isPiece_94 : decode cX7_isPiece 94 = .ok (.iload_n 2, 1) := by decide +kernel
theorem dX7_isPiece_95 : decode cX7_isPiece 95 = .ok (.iconst 1, 1) := by decide +kernel
theorem dX7_isPiece_96 : decode cX7_isPiece 96 = .ok (.if_icmp .ne 16, 3) := by decide +kernel
theorem dX7_isPiece_99 : decode cX7_isPiece 99 = .ok (.aload_n 1, 1) := by decide +kernel
theorem dX7_isPiece_100 : decode cX7_isPiece 100 = .ok (.iload_n 2, 1) := by decide +kernel
theorem dX7_isPiece_101 : decode cX7_isPiece 101 = .ok (.iconst 0, 1) := by decide +kernel
theorem dX7_isPiece_102 : decode cX7_isPiece 102 = .ok (.invokestatic 33, 3) := by decide +kernel
theorem dX7_isPiece_105 : decode cX7_isPiece 105 = .ok (.ifCond .eq 7, 3) := by decide +kernel
theorem dX7_isPiece_108 : decode cX7_isPiece 108 = .ok (.iconst 1, 1) := by decide +kernel
theorem dX7_isPiece_109 : decode cX7_isPiece 109 = .ok (.goto 4, 3) := by decide +kernel
theorem dX7_isPiece_112 : decode cX7_isPiece 112 = .ok (.iconst 0, 1) := by decide +kernel
theorem dX7_isPiece_113 : decode cX7_isPiece 113 = .ok (.ireturn, 1) := by decide +kernel
theorem dX7_isPiece_114 : decode cX7_isPiece 114 = .ok (.iload_n 2, 1) := by decide +kernel
theorem dX7_isPiece_115 : decode cX7_isPiece 115 = .ok (.iconst 2, 1) := by decide +kernel
theorem dX7_isPiece_116 : decode cX7_isPiece 116 = .ok (.if_icmp .lt 22, 3) := by decide +kernel
theorem dX7_isPiece_119 : decode cX7_isPiece 119 = .ok (.iload_n 2, 1) := by decide +kernel
theorem dX7_isPiece_120 : decode cX7_isPiece 120 = .ok (.bipush 20, 2) := by decide +kernel
theorem dX7_isPiece_122 : decode cX7_isPiece 122 = .ok (.if_icmp .gt 16, 3) := by decide +kernel
theorem dX7_isPiece_125 : decode cX7_isPiece 125 = .ok (.aload_n 1, 1) := by decide +kernel
theorem dX7_isPiece_126 : decode cX7_isPiece 126 = .ok (.iload_n 2, 1) := by decide +kernel
theorem dX7_isPiece_127 : decode cX7_isPiece 127 = .ok (.iconst 0, 1) := by decide +kernel
theorem dX7_isPiece_128 : decode cX7_isPiece 128 = .ok (.invokestatic 33, 3) := by decide +kernel
theorem dX7_isPiece_131 : decode cX7_isPiece 131 = .ok (.ifCond .eq 7, 3) := by decide +kernel
theorem dX7_isPiece_134 : decode cX7_isPiece 134 = .ok (.iconst 1, 1) := by decide +kernel
theorem dX7_isPiece_135 : decode cX7_isPiece 135 = .ok (.goto 4, 3) := by decide +kernel
theorem dX7_isPiece_138 : decode cX7_isPiece 138 = .ok (.iconst 0, 1) := by decide +kernel
theorem dX7_isPiece_139 : decode cX7_isPiece 139 = .ok (.ireturn, 1) := by decide +kernel
theorem dX7_isPiece_140 : decode cX7_isPiece 140 = .ok (.iload_n 2, 1) := by decide +kernel
theorem dX7_isPiece_141 : decode cX7_isPiece 141 = .ok (.iconst 1, 1) := by decide +kernel
theorem dX7_isPiece_142 : decode cX7_isPiece 142 = .ok (.if_icmp .ne 7, 3) := by decide +kernel
theorem dX7_isPiece_145 : decode cX7_isPiece 145 = .ok (.iconst 1, 1) := by decide +kernel
theorem dX7_isPiece_146 : decode cX7_isPiece 146 = .ok (.goto 4, 3) := by decide +kernel
theorem dX7_isPiece_149 : decode cX7_isPiece 149 = .ok (.iconst 0, 1) := by decide +kernel
theorem dX7_isPiece_150 : decode cX7_isPiece 150 = .ok (.ireturn, 1) := by decide +kernel
theorem dX7_isPiece_151 : decode cX7_isPiece 151 = .ok (.iconst 0, 1) := by decide +kernel
theorem dX7_isPiece_152 : decode cX7_isPiece 152 = .ok (.ireturn, 1) := by decide +kernel
theorem dX7_areSigns_0 : decode cX7_areSigns 0 = .ok (.iconst 0, 1) := by decide +kernel
theorem dX7_areSigns_1 : decode cX7_areSigns 1 = .ok (.istore_n 3, 1) := by decide +kernel
theorem dX7_areSigns_2 : decode cX7_areSigns 2 = .ok (.iload_n 3, 1) := by decide +kernel
theorem dX7_areSigns_3 : decode cX7_areSigns 3 = .ok (.iload_n 1, 1) := by decide +kernel
theorem dX7_areSigns_4 : decode cX7_areSigns 4 = .ok (.if_icmp .ge 42, 3) := by decide +kernel
theorem dX7_areSigns_7 : decode cX7_areSigns 7 = .ok (.iload_n 3, 1) := by decide +kernel
theorem dX7_areSigns_8 : decode cX7_areSigns 8 = .ok (.aload_n 0, 1) := by decide +kernel
theorem dX7_areSigns_9 : decode cX7_areSigns 9 = .ok (.arraylength, 1) := by decide +kernel
theorem dX7_areSigns_10 : decode cX7_areSigns 10 = .ok (.if_icmp .ge 36, 3) := by decide +kernel
theorem dX7_areSigns_13 : decode cX7_areSigns 13 = .ok (.aload_n 0, 1) := by decide +kernel
theorem dX7_areSigns_14 : decode cX7_areSigns 14 = .ok (.iload_n 3, 1) := by decide +kernel
theorem dX7_areSigns_15 : decode cX7_areSigns 15 = .ok (.iaload, 1) := by decide +kernel
theorem dX7_areSigns_16 : decode cX7_areSigns 16 = .ok (.ifCond .eq 22, 3) := by decide +kernel
theorem dX7_areSigns_19 : decode cX7_areSigns 19 = .ok (.iload_n 2, 1) := by decide +kernel
theorem dX7_areSigns_20 : decode cX7_areSigns 20 = .ok (.ifCond .eq 20, 3) := by decide +kernel
theorem dX7_areSigns_23 : decode cX7_areSigns 23 = .ok (.aload_n 0, 1) := by decide +kernel
theorem dX7_areSigns_24 : decode cX7_areSigns 24 = .ok (.iload_n 3, 1) := by decide +kernel
theorem dX7_areSigns_25 : decode cX7_areSigns 25 = .ok (.iaload, 1) := by decide +kernel
theorem dX7_areSigns_26 : decode cX7_areSigns 26 = .ok (.ifCond .lt 12, 3) := by decide +kernel
theorem dX7_areSigns_29 : decode cX7_areSigns 29 = .ok (.aload_n 0, 1) := by decide +kernel
theorem dX7_areSigns_30 : decode cX7_areSigns 30 = .ok (.iload_n 3, 1) := by decide +kernel
theorem dX7_areSigns_31 : decode cX7_areSigns 31 = .ok (.iaload, 1) := by decide +kernel
theorem dX7_areSigns_32 : decode cX7_areSigns 32 = .ok (.sipush 255, 3) := by decide +kernel
theorem dX7_areSigns_35 : decode cX7_areSigns 35 = .ok (.if_icmp .le 5, 3) := by decide +kernel
theorem dX7_areSigns_38 : decode cX7_areSigns 38 = .ok (.iconst 0, 1) := by decide +kernel
theorem dX7_areSigns_39 : decode cX7_areSigns 39 = .ok (.ireturn, 1) := by decide +kernel
theorem dX7_areSigns_40 : decode cX7_areSigns 40 = .ok (.iinc 3 1, 3) := by decide +kernel
theorem dX7_areSigns_43 : decode cX7_areSigns 43 = .ok (.goto (-41), 3) := by decide +kernel
theorem dX7_areSigns_46 : decode cX7_areSigns 46 = .ok (.iconst 1, 1) := by decide +kernel
theorem dX7_areSigns_47 : decode cX7_areSigns 47 = .ok (.ireturn, 1) := by decide +kernel
theorem dX7_add_0 : decode cX7_add 0 = .ok (.aload_n 0, 1) := by decide +kernel
theorem dX7_add_1 : decode cX7_add 1 = .ok (.getfield 29, 3) := by decide +kernel
theorem dX7_add_4 : decode cX7_add 4 = .ok (.bipush 60, 2) := by decide +kernel
theorem dX7_add_6 : decode cX7_add 6 = .ok (.if_icmp .lt 6, 3) := by decide +kernel
theorem dX7_add_9 : decode cX7_add 9 = .ok (.bipush (-4), 2) := by decide +kernel
theorem dX7_add_11 : decode cX7_add 11 = .ok (.ireturn, 1) := by decide +kernel
theorem dX7_add_12 : decode cX7_add 12 = .ok (.aload_n 0, 1) := by decide +kernel
theorem dX7_add_13 : decode cX7_add 13 = .ok (.getfield 29, 3) := by decide +kernel
theorem dX7_add_16 : decode cX7_add 16 = .ok (.istore 4, 2) := by decide +kernel
theorem dX7_add_18 : decode cX7_add 18 = .ok (.aload_n 0, 1) := by decide +kernel
theorem dX7_add_19 : decode cX7_add 19 = .ok (.getfield 11, 3) := by decide +kernel
theorem dX7_add_22 : decode cX7_add 22 = .ok (.iload 4, 2) := by decide +kernel
theorem dX7_add_24 : decode cX7_add 24 = .ok (.iload_n 1, 1) := by decide +kernel
theorem dX7_add_25 : decode cX7_add 25 = .ok (.iastore, 1) := by decide +kernel
theorem dX7_add_26 : decode cX7_add 26 = .ok (.aload_n 0, 1) := by decide +kernel
theorem dX7_add_27 : decode cX7_add 27 = .ok (.getfield 23, 3) := by decide +kernel
theorem dX7_add_30 : decode cX7_add 30 = .ok (.iload 4, 2) := by decide +kernel
theorem dX7_add_32 : decode cX7_add 32 = .ok (.iload_n 3, 1) := by decide +kernel
theorem dX7_add_33 : decode cX7_add 33 = .ok (.iastore, 1) := by decide +kernel
theorem dX7_add_34 : decode cX7_add 34 = .ok (.aload_n 0, 1) := by decide +kernel
theorem dX7_add_35 : decode cX7_add 35 = .ok (.getfield 26, 3) := by decide +kernel
theorem dX7_add_38 : decode cX7_add 38 = .ok (.iload 4, 2) := by decide +kernel
theorem dX7_add_40 : decode cX7_add 40 = .ok (.iconst (-1), 1) := by decide +kernel
theorem dX7_add_41 : decode cX7_add 41 = .ok (.iastore, 1) := by decide +kernel
theorem dX7_add_42 : decode cX7_add 42 = .ok (.iconst 0, 1) := by decide +kernel
theorem dX7_add_43 : decode cX7_add 43 = .ok (.istore 5, 2) := by decide +kernel
theorem dX7_add_45 : decode cX7_add 45 = .ok (.iload 5, 2) := by decide +kernel
theorem dX7_add_47 : decode cX7_add 47 = .ok (.iload_n 3, 1) := by decide +kernel
theorem dX7_add_48 : decode cX7_add 48 = .ok (.if_icmp .ge 37, 3) := by decide +kernel
theorem dX7_add_51 : decode cX7_add 51 = .ok (.iload 5, 2) := by decide +kernel
theorem dX7_add_53 : decode cX7_add 53 = .ok (.bipush 20, 2) := by decide +kernel
theorem dX7_add_55 : decode cX7_add 55 = .ok (.if_icmp .ge 30, 3) := by decide +kernel
theorem dX7_add_58 : decode cX7_add 58 = .ok (.iload 5, 2) := by decide +kernel
theorem dX7_add_60 : decode cX7_add 60 = .ok (.aload_n 2, 1) := by decide +kernel
theorem dX7_add_61 : decode cX7_add 61 = .ok (.arraylength, 1) := by decide +kernel
theorem dX7_add_62 : decode cX7_add 62 = .ok (.if_icmp .ge 23, 3) := by decide +kernel
theorem dX7_add_65 : decode cX7_add 65 = .ok (.aload_n 0, 1) := by decide +kernel
theorem dX7_add_66 : decode cX7_add 66 = .ok (.getfield 20, 3) := by decide +kernel
theorem dX7_add_69 : decode cX7_add 69 = .ok (.iload 4, 2) := by decide +kernel
theorem dX7_add_71 : decode cX7_add 71 = .ok (.aaload, 1) := by decide +kernel
theorem dX7_add_72 : decode cX7_add 72 = .ok (.iload 5, 2) := by decide +kernel
theorem dX7_add_74 : decode cX7_add 74 = .ok (.aload_n 2, 1) := by decide +kernel
theorem dX7_add_75 : decode cX7_add 75 = .ok (.iload 5, 2) := by decide +kernel
theorem dX7_add_77 : decode cX7_add 77 = .ok (.iaload, 1) := by decide +kernel
theorem dX7_add_78 : decode cX7_add 78 = .ok (.iastore, 1) := by decide +kernel
theorem dX7_add_79 : decode cX7_add 79 = .ok (.iinc 5 1, 3) := by decide +kernel
theorem dX7_add_82 : decode cX7_add 82 = .ok (.goto (-37), 3) := by decide +kernel
theorem dX7_add_85 : decode cX7_add 85 = .ok (.iload_n 1, 1) := by decide +kernel
theorem dX7_add_86 : decode cX7_add 86 = .ok (.bipush 8, 2) := by decide +kernel
theorem dX7_add_88 : decode cX7_add 88 = .ok (.if_icmp .eq 9, 3) := by decide +kernel
theorem dX7_add_91 : decode cX7_add 91 = .ok (.iload_n 1, 1) := by decide +kernel
theorem dX7_add_92 : decode cX7_add 92 = .ok (.bipush 9, 2) := by decide +kernel
theorem dX7_add_94 : decode cX7_add 94 = .ok (.if_icmp .ne 34, 3) := by decide +kernel
theorem dX7_add_97 : decode cX7_add 97 = .ok (.aload_n 0, 1) := by decide +kernel
theorem dX7_add_98 : decode cX7_add 98 = .ok (.getfield 15, 3) := by decide +kernel
theorem dX7_add_101 : decode cX7_add 101 = .ok (.iload 4, 2) := by decide +kernel
theorem dX7_add_103 : decode cX7_add 103 = .ok (.aload_n 0, 1) := by decide +kernel
theorem dX7_add_104 : decode cX7_add 104 = .ok (.getfield 20, 3) := by decide +kernel
theorem dX7_add_107 : decode cX7_add 107 = .ok (.iload 4, 2) := by decide +kernel
theorem dX7_add_109 : decode cX7_add 109 = .ok (.aaload, 1) := by decide +kernel
theorem dX7_add_110 : decode cX7_add 110 = .ok (.iconst 0, 1) := by decide +kernel
theorem dX7_add_111 : decode cX7_add 111 = .ok (.iaload, 1) := by decide +kernel
theorem dX7_add_112 : decode cX7_add 112 = .ok (.iastore, 1) := by decide +kernel
theorem dX7_add_113 : decode cX7_add 113 = .ok (.aload_n 0, 1) := by decide +kernel
theorem dX7_add_114 : decode cX7_add 114 = .ok (.getfield 20, 3) := by decide +kernel
theorem dX7_add_117 : decode cX7_add 117 = .ok (.iload 4, 2) := by decide +kernel
theorem dX7_add_119 : decode cX7_add 119 = .ok (.aaload, 1) := by decide +kernel
theorem dX7_add_120 : decode cX7_add 120 = .ok (.iconst 0, 1) := by decide +kernel
theorem dX7_add_121 : decode cX7_add 121 = .ok (.sipush (-1000), 3) := by decide +kernel
theorem dX7_add_124 : decode cX7_add 124 = .ok (.iload 4, 2) := by decide +kernel
theorem dX7_add_126 : decode cX7_add 126 = .ok (.isub, 1) := by decide +kernel
theorem dX7_add_127 : decode cX7_add 127 = .ok (.iastore, 1) := by decide +kernel
theorem dX7_add_128 : decode cX7_add 128 = .ok (.aload_n 0, 1) := by decide +kernel
theorem dX7_add_129 : decode cX7_add 129 = .ok (.dup, 1) := by decide +kernel
theorem dX7_add_130 : decode cX7_add 130 = .ok (.getfield 29, 3) := by decide +kernel
theorem dX7_add_133 : decode cX7_add 133 = .ok (.iconst 1, 1) := by decide +kernel
theorem dX7_add_134 : decode cX7_add 134 = .ok (.iadd, 1) := by decide +kernel
theorem dX7_add_135 : decode cX7_add 135 = .ok (.putfield 29, 3) := by decide +kernel
theorem dX7_add_138 : decode cX7_add 138 = .ok (.iload 4, 2) := by decide +kernel
theorem dX7_add_140 : decode cX7_add 140 = .ok (.ireturn, 1) := by decide +kernel
theorem dX7_standsAt_0 : decode cX7_standsAt 0 = .ok (.iload_n 3, 1) := by decide +kernel
theorem dX7_standsAt_1 : decode cX7_standsAt 1 = .ok (.ifCond .lt 23, 3) := by decide +kernel
theorem dX7_standsAt_4 : decode cX7_standsAt 4 = .ok (.iload 4, 2) := by decide +kernel
theorem dX7_standsAt_6 : decode cX7_standsAt 6 = .ok (.aload_n 2, 1) := by decide +kernel
theorem dX7_standsAt_7 : decode cX7_standsAt 7 = .ok (.arraylength, 1) := by decide +kernel
theorem dX7_standsAt_8 : decode cX7_standsAt 8 = .ok (.if_icmp .gt 16, 3) := by decide +kernel
theorem dX7_standsAt_11 : decode cX7_standsAt 11 = .ok (.aload_n 0, 1) := by decide +kernel
theorem dX7_standsAt_12 : decode cX7_standsAt 12 = .ok (.getfield 23, 3) := by decide +kernel
theorem dX7_standsAt_15 : decode cX7_standsAt 15 = .ok (.iload_n 1, 1) := by decide +kernel
theorem dX7_standsAt_16 : decode cX7_standsAt 16 = .ok (.iaload, 1) := by decide +kernel
theorem dX7_standsAt_17 : decode cX7_standsAt 17 = .ok (.iload 4, 2) := by decide +kernel
theorem dX7_standsAt_19 : decode cX7_standsAt 19 = .ok (.iload_n 3, 1) := by decide +kernel
theorem dX7_standsAt_20 : decode cX7_standsAt 20 = .ok (.isub, 1) := by decide +kernel
theorem dX7_standsAt_21 : decode cX7_standsAt 21 = .ok (.if_icmp .le 5, 3) := by decide +kernel
theorem dX7_standsAt_24 : decode cX7_standsAt 24 = .ok (.iconst 0, 1) := by decide +kernel
theorem dX7_standsAt_25 : decode cX7_standsAt 25 = .ok (.ireturn, 1) := by decide +kernel
theorem dX7_standsAt_26 : decode cX7_standsAt 26 = .ok (.iconst 0, 1) := by decide +kernel
theorem dX7_standsAt_27 : decode cX7_standsAt 27 = .ok (.istore 5, 2) := by decide +kernel
theorem dX7_standsAt_29 : decode cX7_standsAt 29 = .ok (.iload 5, 2) := by decide +kernel
theorem dX7_standsAt_31 : decode cX7_standsAt 31 = .ok (.aload_n 0, 1) := by decide +kernel
theorem dX7_standsAt_32 : decode cX7_standsAt 32 = .ok (.getfield 23, 3) := by decide +kernel
theorem dX7_standsAt_35 : decode cX7_standsAt 35 = .ok (.iload_n 1, 1) := by decide +kernel
theorem dX7_standsAt_36 : decode cX7_standsAt 36 = .ok (.iaload, 1) := by decide +kernel
theorem dX7_standsAt_37 : decode cX7_standsAt 37 = .ok (.if_icmp .ge 36, 3) := by decide +kernel
theorem dX7_standsAt_40 : decode cX7_standsAt 40 = .ok (.iload 5, 2) := by decide +kernel
theorem dX7_standsAt_42 : decode cX7_standsAt 42 = .ok (.bipush 20, 2) := by decide +kernel
theorem dX7_standsAt_44 : decode cX7_standsAt 44 = .ok (.if_icmp .ge 29, 3) := by decide +kernel
theorem dX7_standsAt_47 : decode cX7_standsAt 47 = .ok (.aload_n 2, 1) := by decide +kernel
theorem dX7_standsAt_48 : decode cX7_standsAt 48 = .ok (.iload_n 3, 1) := by decide +kernel
theorem dX7_standsAt_49 : decode cX7_standsAt 49 = .ok (.iload 5, 2) := by decide +kernel
theorem dX7_standsAt_51 : decode cX7_standsAt 51 = .ok (.iadd, 1) := by decide +kernel
theorem dX7_standsAt_52 : decode cX7_standsAt 52 = .ok (.iaload, 1) := by decide +kernel
theorem dX7_standsAt_53 : decode cX7_standsAt 53 = .ok (.aload_n 0, 1) := by decide +kernel
theorem dX7_standsAt_54 : decode cX7_standsAt 54 = .ok (.getfield 20, 3) := by decide +kernel
theorem dX7_standsAt_57 : decode cX7_standsAt 57 = .ok (.iload_n 1, 1) := by decide +kernel
theorem dX7_standsAt_58 : decode cX7_standsAt 58 = .ok (.aaload, 1) := by decide +kernel
theorem dX7_standsAt_59 : decode cX7_standsAt 59 = .ok (.iload 5, 2) := by decide +kernel
theorem dX7_standsAt_61 : decode cX7_standsAt 61 = .ok (.iaload, 1) := by decide +kernel
theorem dX7_standsAt_62 : decode cX7_standsAt 62 = .ok (.if_icmp .eq 5, 3) := by decide +kernel
theorem dX7_standsAt_65 : decode cX7_standsAt 65 = .ok (.iconst 0, 1) := by decide +kernel
theorem dX7_standsAt_66 : decode cX7_standsAt 66 = .ok (.ireturn, 1) := by decide +kernel
theorem dX7_standsAt_67 : decode cX7_standsAt 67 = .ok (.iinc 5 1, 3) := by decide +kernel
theorem dX7_standsAt_70 : decode cX7_standsAt 70 = .ok (.goto (-41), 3) := by decide +kernel
theorem dX7_standsAt_73 : decode cX7_standsAt 73 = .ok (.iconst 1, 1) := by decide +kernel
theorem dX7_standsAt_74 : decode cX7_standsAt 74 = .ok (.ireturn, 1) := by decide +kernel
theorem dX7_nodeSize_0 : decode cX7_nodeSize 0 = .ok (.aload_n 0, 1) := by decide +kernel
theorem dX7_nodeSize_1 : decode cX7_nodeSize 1 = .ok (.getfield 11, 3) := by decide +kernel
theorem dX7_nodeSize_4 : decode cX7_nodeSize 4 = .ok (.iload_n 1, 1) := by decide +kernel
theorem dX7_nodeSize_5 : decode cX7_nodeSize 5 = .ok (.iaload, 1) := by decide +kernel
theorem dX7_nodeSize_6 : decode cX7_nodeSize 6 = .ok (.tableswitch 56 2 5 #[30, 32, 56, 43], 30) := by decide +kernel
theorem dX7_nodeSize_36 : decode cX7_nodeSize 36 = .ok (.iconst 2, 1) := by decide +kernel
theorem dX7_nodeSize_37 : decode cX7_nodeSize 37 = .ok (.ireturn, 1) := by decide +kernel
theorem dX7_nodeSize_38 : decode cX7_nodeSize 38 = .ok (.iconst 1, 1) := by decide +kernel
theorem dX7_nodeSize_39 : decode cX7_nodeSize 39 = .ok (.aload_n 0, 1) := by decide +kernel
theorem dX7_nodeSize_40 : decode cX7_nodeSize 40 = .ok (.getfield 23, 3) := by decide +kernel
theorem dX7_nodeSize_43 : decode cX7_nodeSize 43 = .ok (.iload_n 1, 1) := by decide +kernel
theorem dX7_nodeSize_44 : decode cX7_nodeSize 44 = .ok (.iaload, 1) := by decide +kernel
theorem dX7_nodeSize_45 : decode cX7_nodeSize 45 = .ok (.iadd, 1) := by decide +kernel
theorem dX7_nodeSize_46 : decode cX7_nodeSize 46 = .ok (.iconst 1, 1) := by decide +kernel
theorem dX7_nodeSize_47 : decode cX7_nodeSize 47 = .ok (.iadd, 1) := by decide +kernel
theorem dX7_nodeSize_48 : decode cX7_nodeSize 48 = .ok (.ireturn, 1) := by decide +kernel
theorem dX7_nodeSize_49 : decode cX7_nodeSize 49 = .ok (.iconst 1, 1) := by decide +kernel
theorem dX7_nodeSize_50 : decode cX7_nodeSize 50 = .ok (.iconst 4, 1) := by decide +kernel
theorem dX7_nodeSize_51 : decode cX7_nodeSize 51 = .ok (.aload_n 0, 1) := by decide +kernel
theorem dX7_nodeSize_52 : decode cX7_nodeSize 52 = .ok (.getfield 23, 3) := by decide +kernel
theorem dX7_nodeSize_55 : decode cX7_nodeSize 55 = .ok (.iload_n 1, 1) := by decide +kernel
theorem dX7_nodeSize_56 : decode cX7_nodeSize 56 = .ok (.iaload, 1) := by decide +kernel
theorem dX7_nodeSize_57 : decode cX7_nodeSize 57 = .ok (.imul, 1) := by decide +kernel
theorem dX7_nodeSize_58 : decode cX7_nodeSize 58 = .ok (.iadd, 1) := by decide +kernel
theorem dX7_nodeSize_59 : decode cX7_nodeSize 59 = .ok (.iconst 4, 1) := by decide +kernel
theorem dX7_nodeSize_60 : decode cX7_nodeSize 60 = .ok (.iadd, 1) := by decide +kernel
theorem dX7_nodeSize_61 : decode cX7_nodeSize 61 = .ok (.ireturn, 1) := by decide +kernel
theorem dX7_nodeSize_62 : decode cX7_nodeSize 62 = .ok (.iconst 5, 1) := by decide +kernel
theorem dX7_nodeSize_63 : decode cX7_nodeSize 63 = .ok (.ireturn, 1) := by decide +kernel
theorem dX7_putNode_0 : decode cX7_putNode 0 = .ok (.aload_n 1, 1) := by decide +kernel
theorem dX7_putNode_1 : decode cX7_putNode 1 = .ok (.iload_n 3, 1) := by decide +kernel
theorem dX7_putNode_2 : decode cX7_putNode 2 = .ok (.aload_n 0, 1) := by decide +kernel
theorem dX7_putNode_3 : decode cX7_putNode 3 = .ok (.getfield 11, 3) := by decide +kernel
theorem dX7_putNode_6 : decode cX7_putNode 6 = .ok (.iload_n 2, 1) := by decide +kernel
theorem dX7_putNode_7 : decode cX7_putNode 7 = .ok (.iaload, 1) := by decide +kernel
theorem dX7_putNode_8 : decode cX7_putNode 8 = .ok (.invokevirtual 39, 3) := by decide +kernel
theorem dX7_putNode_11 : decode cX7_putNode 11 = .ok (.aload_n 0, 1) := by decide +kernel
theorem dX7_putNode_12 : decode cX7_putNode 12 = .ok (.getfield 11, 3) := by decide +kernel
theorem dX7_putNode_15 : decode cX7_putNode 15 = .ok (.iload_n 2, 1) := by decide +kernel
theorem dX7_putNode_16 : decode cX7_putNode 16 = .ok (.iaload, 1) := by decide +kernel
theorem dX7_putNode_17 : decode cX7_putNode 17 = .ok (.tableswitch 91 2 5 #[31, 49, 61, 79], 31) := by decide +kernel
theorem dX7_putNode_48 : decode cX7_putNode 48 = .ok (.aload_n 1, 1) := by decide +kernel
theorem dX7_putNode_49 : decode cX7_putNode 49 = .ok (.iload_n 3, 1) := by decide +kernel
theorem dX7_putNode_50 : decode cX7_putNode 50 = .ok (.iconst 1, 1) := by decide +kernel
theorem dX7_putNode_51 : decode cX7_putNode 51 = .ok (.iadd, 1) := by decide +kernel
theorem dX7_putNode_52 : decode cX7_putNode 52 = .ok (.aload_n 0, 1) := by decide +kernel
theorem dX7_putNode_53 : decode cX7_putNode 53 = .ok (.getfield 20, 3) := by decide +kernel
theorem dX7_putNode_56 : decode cX7_putNode 56 = .ok (.iload_n 2, 1) := by decide +kernel
theorem dX7_putNode_57 : decode cX7_putNode 57 = .ok (.aaload, 1) := by decide +kernel
theorem dX7_putNode_58 : decode cX7_putNode 58 = .ok (.iconst 0, 1) := by decide +kernel
theorem dX7_putNode_59 : decode cX7_putNode 59 = .ok (.iaload, 1) := by decide +kernel
theorem dX7_putNode_60 : decode cX7_putNode 60 = .ok (.invokevirtual 39, 3) := by decide +kernel
theorem dX7_putNode_63 : decode cX7_putNode 63 = .ok (.goto 58, 3) := by decide +kernel
theorem dX7_putNode_66 : decode cX7_putNode 66 = .ok (.aload_n 0, 1) := by decide +kernel
theorem dX7_putNode_67 : decode cX7_putNode 67 = .ok (.aload_n 1, 1) := by decide +kernel
theorem dX7_putNode_68 : decode cX7_putNode 68 = .ok (.iload_n 2, 1) := by decide +kernel
theorem dX7_putNode_69 : decode cX7_putNode 69 = .ok (.iload_n 3, 1) := by decide +kernel
theorem dX7_putNode_70 : decode cX7_putNode 70 = .ok (.iconst 1, 1) := by decide +kernel
theorem dX7_putNode_71 : decode cX7_putNode 71 = .ok (.iadd, 1) := by decide +kernel
theorem dX7_putNode_72 : decode cX7_putNode 72 = .ok (.invokevirtual 45, 3) := by decide +kernel
theorem dX7_putNode_75 : decode cX7_putNode 75 = .ok (.goto 46, 3) := by decide +kernel
theorem dX7_putNode_78 : decode cX7_putNode 78 = .ok (.aload_n 1, 1) := by decide +kernel
theorem dX7_putNode_79 : decode cX7_putNode 79 = .ok (.iload_n 3, 1) := by decide +kernel
theorem dX7_putNode_80 : decode cX7_putNode 80 = .ok (.iconst 1, 1) := by decide +kernel
theorem dX7_putNode_81 : decode cX7_putNode 81 = .ok (.iadd, 1) := by decide +kernel
theorem dX7_putNode_82 : decode cX7_putNode 82 = .ok (.aload_n 0, 1) := by decide +kernel
theorem dX7_putNode_83 : decode cX7_putNode 83 = .ok (.getfield 20, 3) := by decide +kernel
theorem dX7_putNode_86 : decode cX7_putNode 86 = .ok (.iload_n 2, 1) := by decide +kernel
theorem dX7_putNode_87 : decode cX7_putNode 87 = .ok (.aaload, 1) := by decide +kernel
theorem dX7_putNode_88 : decode cX7_putNode 88 = .ok (.iconst 0, 1) := by decide +kernel
theorem dX7_putNode_89 : decode cX7_putNode 89 = .ok (.iaload, 1) := by decide +kernel
theorem dX7_putNode_90 : decode cX7_putNode 90 = .ok (.invokevirtual 49, 3) := by decide +kernel
theorem dX7_putNode_93 : decode cX7_putNode 93 = .ok (.goto 28, 3) := by decide +kernel
theorem dX7_putNode_96 : decode cX7_putNode 96 = .ok (.aload_n 0, 1) := by decide +kernel
theorem dX7_putNode_97 : decode cX7_putNode 97 = .ok (.aload_n 1, 1) := by decide +kernel
theorem dX7_putNode_98 : decode cX7_putNode 98 = .ok (.iload_n 2, 1) := by decide +kernel
theorem dX7_putNode_99 : decode cX7_putNode 99 = .ok (.iload_n 3, 1) := by decide +kernel
theorem dX7_putNode_100 : decode cX7_putNode 100 = .ok (.iconst 1, 1) := by decide +kernel
theorem dX7_putNode_101 : decode cX7_putNode 101 = .ok (.iadd, 1) := by decide +kernel
theorem dX7_putNode_102 : decode cX7_putNode 102 = .ok (.invokevirtual 52, 3) := by decide +kernel
theorem dX7_putNode_105 : decode cX7_putNode 105 = .ok (.goto 16, 3) := by decide +kernel
theorem dX7_putNode_108 : decode cX7_putNode 108 = .ok (.aload_n 1, 1) := by decide +kernel
theorem dX7_putNode_109 : decode cX7_putNode 109 = .ok (.iload_n 3, 1) := by decide +kernel
theorem dX7_putNode_110 : decode cX7_putNode 110 = .ok (.iconst 1, 1) := by decide +kernel
theorem dX7_putNode_111 : decode cX7_putNode 111 = .ok (.iadd, 1) := by decide +kernel
theorem dX7_putNode_112 : decode cX7_putNode 112 = .ok (.aload_n 0, 1) := by decide +kernel
theorem dX7_putNode_113 : decode cX7_putNode 113 = .ok (.getfield 15, 3) := by decide +kernel
theorem dX7_putNode_116 : decode cX7_putNode 116 = .ok (.iload_n 2, 1) := by decide +kernel
theorem dX7_putNode_117 : decode cX7_putNode 117 = .ok (.iaload, 1) := by decide +kernel
theorem dX7_putNode_118 : decode cX7_putNode 118 = .ok (.invokevirtual 49, 3) := by decide +kernel
theorem dX7_putNode_121 : decode cX7_putNode 121 = .ok (.return_, 1) := by decide +kernel
theorem dX7_putBytes_0 : decode cX7_putBytes 0 = .ok (.iconst 0, 1) := by decide +kernel
theorem dX7_putBytes_1 : decode cX7_putBytes 1 = .ok (.istore 4, 2) := by decide +kernel
theorem dX7_putBytes_3 : decode cX7_putBytes 3 = .ok (.iload 4, 2) := by decide +kernel
theorem dX7_putBytes_5 : decode cX7_putBytes 5 = .ok (.aload_n 0, 1) := by decide +kernel
theorem dX7_putBytes_6 : decode cX7_putBytes 6 = .ok (.getfield 23, 3) := by decide +kernel
theorem dX7_putBytes_9 : decode cX7_putBytes 9 = .ok (.iload_n 2, 1) := by decide +kernel
theorem dX7_putBytes_10 : decode cX7_putBytes 10 = .ok (.iaload, 1) := by decide +kernel
theorem dX7_putBytes_11 : decode cX7_putBytes 11 = .ok (.if_icmp .ge 33, 3) := by decide +kernel
theorem dX7_putBytes_14 : decode cX7_putBytes 14 = .ok (.iload 4, 2) := by decide +kernel
theorem dX7_putBytes_16 : decode cX7_putBytes 16 = .ok (.bipush 20, 2) := by decide +kernel
theorem dX7_putBytes_18 : decode cX7_putBytes 18 = .ok (.if_icmp .ge 26, 3) := by decide +kernel
theorem dX7_putBytes_21 : decode cX7_putBytes 21 = .ok (.aload_n 1, 1) := by decide +kernel
theorem dX7_putBytes_22 : decode cX7_putBytes 22 = .ok (.iload_n 3, 1) := by decide +kernel
theorem dX7_putBytes_23 : decode cX7_putBytes 23 = .ok (.iload 4, 2) := by decide +kernel
theorem dX7_putBytes_25 : decode cX7_putBytes 25 = .ok (.iadd, 1) := by decide +kernel
theorem dX7_putBytes_26 : decode cX7_putBytes 26 = .ok (.aload_n 0, 1) := by decide +kernel
theorem dX7_putBytes_27 : decode cX7_putBytes 27 = .ok (.getfield 20, 3) := by decide +kernel
theorem dX7_putBytes_30 : decode cX7_putBytes 30 = .ok (.iload_n 2, 1) := by decide +kernel
theorem dX7_putBytes_31 : decode cX7_putBytes 31 = .ok (.aaload, 1) := by decide +kernel
theorem dX7_putBytes_32 : decode cX7_putBytes 32 = .ok (.iload 4, 2) := by decide +kernel
theorem dX7_putBytes_34 : decode cX7_putBytes 34 = .ok (.iaload, 1) := by decide +kernel
theorem dX7_putBytes_35 : decode cX7_putBytes 35 = .ok (.invokevirtual 39, 3) := by decide +kernel
theorem dX7_putBytes_38 : decode cX7_putBytes 38 = .ok (.iinc 4 1, 3) := by decide +kernel
theorem dX7_putBytes_41 : decode cX7_putBytes 41 = .ok (.goto (-38), 3) := by decide +kernel
theorem dX7_putBytes_44 : decode cX7_putBytes 44 = .ok (.aload_n 1, 1) := by decide +kernel
theorem dX7_putBytes_45 : decode cX7_putBytes 45 = .ok (.iload_n 3, 1) := by decide +kernel
theorem dX7_putBytes_46 : decode cX7_putBytes 46 = .ok (.aload_n 0, 1) := by decide +kernel
theorem dX7_putBytes_47 : decode cX7_putBytes 47 = .ok (.getfield 23, 3) := by decide +kernel
theorem dX7_putBytes_50 : decode cX7_putBytes 50 = .ok (.iload_n 2, 1) := by decide +kernel
theorem dX7_putBytes_51 : decode cX7_putBytes 51 = .ok (.iaload, 1) := by decide +kernel
theorem dX7_putBytes_52 : decode cX7_putBytes 52 = .ok (.iadd, 1) := by decide +kernel
theorem dX7_putBytes_53 : decode cX7_putBytes 53 = .ok (.iconst 0, 1) := by decide +kernel
theorem dX7_putBytes_54 : decode cX7_putBytes 54 = .ok (.invokevirtual 39, 3) := by decide +kernel
theorem dX7_putBytes_57 : decode cX7_putBytes 57 = .ok (.return_, 1) := by decide +kernel
theorem dX7_putFours_0 : decode cX7_putFours 0 = .ok (.iconst 0, 1) := by decide +kernel
theorem dX7_putFours_1 : decode cX7_putFours 1 = .ok (.istore 4, 2) := by decide +kernel
theorem dX7_putFours_3 : decode cX7_putFours 3 = .ok (.iload 4, 2) := by decide +kernel
theorem dX7_putFours_5 : decode cX7_putFours 5 = .ok (.aload_n 0, 1) := by decide +kernel
theorem dX7_putFours_6 : decode cX7_putFours 6 = .ok (.getfield 23, 3) := by decide +kernel
theorem dX7_putFours_9 : decode cX7_putFours 9 = .ok (.iload_n 2, 1) := by decide +kernel
theorem dX7_putFours_10 : decode cX7_putFours 10 = .ok (.iaload, 1) := by decide +kernel
theorem dX7_putFours_11 : decode cX7_putFours 11 = .ok (.if_icmp .ge 35, 3) := by decide +kernel
theorem dX7_putFours_14 : decode cX7_putFours 14 = .ok (.iload 4, 2) := by decide +kernel
theorem dX7_putFours_16 : decode cX7_putFours 16 = .ok (.bipush 20, 2) := by decide +kernel
theorem dX7_putFours_18 : decode cX7_putFours 18 = .ok (.if_icmp .ge 28, 3) := by decide +kernel
theorem dX7_putFours_21 : decode cX7_putFours 21 = .ok (.aload_n 1, 1) := by decide +kernel
theorem dX7_putFours_22 : decode cX7_putFours 22 = .ok (.iload_n 3, 1) := by decide +kernel
theorem dX7_putFours_23 : decode cX7_putFours 23 = .ok (.iconst 4, 1) := by decide +kernel
theorem dX7_putFours_24 : decode cX7_putFours 24 = .ok (.iload 4, 2) := by decide +kernel
theorem dX7_putFours_26 : decode cX7_putFours 26 = .ok (.imul, 1) := by decide +kernel
theorem dX7_putFours_27 : decode cX7_putFours 27 = .ok (.iadd, 1) := by decide +kernel
theorem dX7_putFours_28 : decode cX7_putFours 28 = .ok (.aload_n 0, 1) := by decide +kernel
theorem dX7_putFours_29 : decode cX7_putFours 29 = .ok (.getfield 20, 3) := by decide +kernel
theorem dX7_putFours_32 : decode cX7_putFours 32 = .ok (.iload_n 2, 1) := by decide +kernel
theorem dX7_putFours_33 : decode cX7_putFours 33 = .ok (.aaload, 1) := by decide +kernel
theorem dX7_putFours_34 : decode cX7_putFours 34 = .ok (.iload 4, 2) := by decide +kernel
theorem dX7_putFours_36 : decode cX7_putFours 36 = .ok (.iaload, 1) := by decide +kernel
theorem dX7_putFours_37 : decode cX7_putFours 37 = .ok (.invokevirtual 49, 3) := by decide +kernel
theorem dX7_putFours_40 : decode cX7_putFours 40 = .ok (.iinc 4 1, 3) := by decide +kernel
theorem dX7_putFours_43 : decode cX7_putFours 43 = .ok (.goto (-40), 3) := by decide +kernel
theorem dX7_putFours_46 : decode cX7_putFours 46 = .ok (.aload_n 1, 1) := by decide +kernel
theorem dX7_putFours_47 : decode cX7_putFours 47 = .ok (.iload_n 3, 1) := by decide +kernel
theorem dX7_putFours_48 : decode cX7_putFours 48 = .ok (.iconst 4, 1) := by decide +kernel
theorem dX7_putFours_49 : decode cX7_putFours 49 = .ok (.aload_n 0, 1) := by decide +kernel
theorem dX7_putFours_50 : decode cX7_putFours 50 = .ok (.getfield 23, 3) := by decide +kernel
theorem dX7_putFours_53 : decode cX7_putFours 53 = .ok (.iload_n 2, 1) := by decide +kernel
theorem dX7_putFours_54 : decode cX7_putFours 54 = .ok (.iaload, 1) := by decide +kernel
theorem dX7_putFours_55 : decode cX7_putFours 55 = .ok (.imul, 1) := by decide +kernel
theorem dX7_putFours_56 : decode cX7_putFours 56 = .ok (.iadd, 1) := by decide +kernel
theorem dX7_putFours_57 : decode cX7_putFours 57 = .ok (.iconst 0, 1) := by decide +kernel
theorem dX7_putFours_58 : decode cX7_putFours 58 = .ok (.invokevirtual 49, 3) := by decide +kernel
theorem dX7_putFours_61 : decode cX7_putFours 61 = .ok (.return_, 1) := by decide +kernel
theorem dX8_init_0 : decode cX8_init 0 = .ok (.aload_n 0, 1) := by decide +kernel
theorem dX8_init_1 : decode cX8_init 1 = .ok (.invokespecial 1, 3) := by decide +kernel
theorem dX8_init_4 : decode cX8_init 4 = .ok (.aload_n 0, 1) := by decide +kernel
theorem dX8_init_5 : decode cX8_init 5 = .ok (.sipush 4096, 3) := by decide +kernel
theorem dX8_init_8 : decode cX8_init 8 = .ok (.newarray .int, 2) := by decide +kernel
theorem dX8_init_10 : decode cX8_init 10 = .ok (.putfield 9, 3) := by decide +kernel
theorem dX8_init_13 : decode cX8_init 13 = .ok (.aload_n 0, 1) := by decide +kernel
theorem dX8_init_14 : decode cX8_init 14 = .ok (.sipush 4096, 3) := by decide +kernel
theorem dX8_init_17 : decode cX8_init 17 = .ok (.newarray .int, 2) := by decide +kernel
theorem dX8_init_19 : decode cX8_init 19 = .ok (.putfield 15, 3) := by decide +kernel
theorem dX8_init_22 : decode cX8_init 22 = .ok (.aload_n 0, 1) := by decide +kernel
theorem dX8_init_23 : decode cX8_init 23 = .ok (.iconst 0, 1) := by decide +kernel
theorem dX8_init_24 : decode cX8_init 24 = .ok (.putfield 18, 3) := by decide +kernel
theorem dX8_init_27 : decode cX8_init 27 = .ok (.aload_n 0, 1) := by decide +kernel
theorem dX8_init_28 : decode cX8_init 28 = .ok (.iconst 0, 1) := by decide +kernel
theorem dX8_init_29 : decode cX8_init 29 = .ok (.putfield 22, 3) := by decide +kernel
theorem dX8_init_32 : decode cX8_init 32 = .ok (.aload_n 0, 1) := by decide +kernel
theorem dX8_init_33 : decode cX8_init 33 = .ok (.iconst 0, 1) := by decide +kernel
theorem dX8_init_34 : decode cX8_init 34 = .ok (.putfield 25, 3) := by decide +kernel
theorem dX8_init_37 : decode cX8_init 37 = .ok (.aload_n 0, 1) := by decide +kernel
theorem dX8_init_38 : decode cX8_init 38 = .ok (.iconst 0, 1) := by decide +kernel
theorem dX8_init_39 : decode cX8_init 39 = .ok (.putfield 28, 3) := by decide +kernel
theorem dX8_init_42 : decode cX8_init 42 = .ok (.aload_n 0, 1) := by decide +kernel
theorem dX8_init_43 : decode cX8_init 43 = .ok (.iconst 0, 1) := by decide +kernel
theorem dX8_init_44 : decode cX8_init 44 = .ok (.putfield 31, 3) := by decide +kernel
theorem dX8_init_47 : decode cX8_init 47 = .ok (.aload_n 0, 1) := by decide +kernel
theorem dX8_init_48 : decode cX8_init 48 = .ok (.iconst 0, 1) := by decide +kernel
theorem dX8_init_49 : decode cX8_init 49 = .ok (.putfield 34, 3) := by decide +kernel
theorem dX8_init_52 : decode cX8_init 52 = .ok (.aload_n 0, 1) := by decide +kernel
theorem dX8_init_53 : decode cX8_init 53 = .ok (.aload_n 1, 1) := by decide +kernel
theorem dX8_init_54 : decode cX8_init 54 = .ok (.putfield 37, 3) := by decide +kernel
theorem dX8_init_57 : decode cX8_init 57 = .ok (.return_, 1) := by decide +kernel
theorem dX8_tell_0 : decode cX8_tell 0 = .ok (.aload_n 0, 1) := by decide +kernel
theorem dX8_tell_1 : decode cX8_tell 1 = .ok (.iload_n 1, 1) := by decide +kernel
theorem dX8_tell_2 : decode cX8_tell 2 = .ok (.putfield 34, 3) := by decide +kernel
theorem dX8_tell_5 : decode cX8_tell 5 = .ok (.aload_n 0, 1) := by decide +kernel
theorem dX8_tell_6 : decode cX8_tell 6 = .ok (.invokevirtual 41, 3) := by decide +kernel
theorem dX8_tell_9 : decode cX8_tell 9 = .ok (.iload_n 1, 1) := by decide +kernel
theorem dX8_tell_10 : decode cX8_tell 10 = .ok (.ifCond .le 17, 3) := by decide +kernel
theorem dX8_tell_13 : decode cX8_tell 13 = .ok (.iload_n 1, 1) := by decide +kernel
theorem dX8_tell_14 : decode cX8_tell 14 = .ok (.aload_n 0, 1) := by decide +kernel
theorem dX8_tell_15 : decode cX8_tell 15 = .ok (.getfield 37, 3) := by decide +kernel
theorem dX8_tell_18 : decode cX8_tell 18 = .ok (.getfield 44, 3) := by decide +kernel
theorem dX8_tell_21 : decode cX8_tell 21 = .ok (.bipush 12, 2) := by decide +kernel
theorem dX8_tell_23 : decode cX8_tell 23 = .ok (.isub, 1) := by decide +kernel
theorem dX8_tell_24 : decode cX8_tell 24 = .ok (.if_icmp .le 4, 3) := by decide +kernel
theorem dX8_tell_27 : decode cX8_tell 27 = .ok (.return_, 1) := by decide +kernel
theorem dX8_tell_28 : decode cX8_tell 28 = .ok (.aload_n 0, 1) := by decide +kernel
theorem dX8_tell_29 : decode cX8_tell 29 = .ok (.getfield 37, 3) := by decide +kernel
theorem dX8_tell_32 : decode cX8_tell 32 = .ok (.iload_n 1, 1) := by decide +kernel
theorem dX8_tell_33 : decode cX8_tell 33 = .ok (.invokevirtual 49, 3) := by decide +kernel
theorem dX8_tell_36 : decode cX8_tell 36 = .ok (.istore_n 2, 1) := by decide +kernel
theorem dX8_tell_37 : decode cX8_tell 37 = .ok (.iload_n 2, 1) := by decide +kernel
theorem dX8_tell_38 : decode cX8_tell 38 = .ok (.bipush 12, 2) := by decide +kernel
theorem dX8_tell_40 : decode cX8_tell 40 = .ok (.if_icmp .lt 16, 3) := by decide +kernel
theorem dX8_tell_43 : decode cX8_tell 43 = .ok (.iload_n 2, 1) := by decide +kernel
theorem dX8_tell_44 : decode cX8_tell 44 = .ok (.aload_n 0, 1) := by decide +kernel
theorem dX8_tell_45 : decode cX8_tell 45 = .ok (.getfield 37, 3) := by decide +kernel
theorem dX8_tell_48 : decode cX8_tell 48 = .ok (.getfield 44, 3) := by decide +kernel
theorem dX8_tell_51 : decode cX8_tell 51 = .ok (.iload_n 1, 1) := by decide +kernel
theorem dX8_tell_52 : decode cX8_tell 52 = .ok (.isub, 1) := by decide +kernel
theorem dX8_tell_53 : decode cX8_tell 53 = .ok (.if_icmp .le 4, 3) := by decide +kernel
theorem dX8_tell_56 : decode cX8_tell 56 = .ok (.return_, 1) := by decide +kernel
theorem dX8_tell_57 : decode cX8_tell 57 = .ok (.aload_n 0, 1) := by decide +kernel
theorem dX8_tell_58 : decode cX8_tell 58 = .ok (.iload_n 1, 1) := by decide +kernel
theorem dX8_tell_59 : decode cX8_tell 59 = .ok (.putfield 25, 3) := by decide +kernel
theorem dX8_tell_62 : decode cX8_tell 62 = .ok (.aload_n 0, 1) := by decide +kernel
theorem dX8_tell_63 : decode cX8_tell 63 = .ok (.iload_n 1, 1) := by decide +kernel
theorem dX8_tell_64 : decode cX8_tell 64 = .ok (.iload_n 2, 1) := by decide +kernel
theorem dX8_tell_65 : decode cX8_tell 65 = .ok (.iadd, 1) := by decide +kernel
theorem dX8_tell_66 : decode cX8_tell 66 = .ok (.putfield 28, 3) := by decide +kernel
theorem dX8_tell_69 : decode cX8_tell 69 = .ok (.aload_n 0, 1) := by decide +kernel
theorem dX8_tell_70 : decode cX8_tell 70 = .ok (.iconst (-1), 1) := by decide +kernel
theorem dX8_tell_71 : decode cX8_tell 71 = .ok (.putfield 31, 3) := by decide +kernel
theorem dX8_tell_74 : decode cX8_tell 74 = .ok (.return_, 1) := by decide +kernel
theorem dX8_drop_0 : decode cX8_drop 0 = .ok (.aload_n 0, 1) := by decide +kernel
theorem dX8_drop_1 : decode cX8_drop 1 = .ok (.iconst 0, 1) := by decide +kernel
theorem dX8_drop_2 : decode cX8_drop 2 = .ok (.putfield 25, 3) := by decide +kernel
theorem dX8_drop_5 : decode cX8_drop 5 = .ok (.aload_n 0, 1) := by decide +kernel
theorem dX8_drop_6 : decode cX8_drop 6 = .ok (.iconst 0, 1) := by decide +kernel
theorem dX8_drop_7 : decode cX8_drop 7 = .ok (.putfield 28, 3) := by decide +kernel
theorem dX8_drop_10 : decode cX8_drop 10 = .ok (.aload_n 0, 1) := by decide +kernel
theorem dX8_drop_11 : decode cX8_drop 11 = .ok (.iconst 0, 1) := by decide +kernel
theorem dX8_drop_12 : decode cX8_drop 12 = .ok (.putfield 31, 3) := by decide +kernel
theorem dX8_drop_15 : decode cX8_drop 15 = .ok (.return_, 1) := by decide +kernel
theorem dX8_dropIfTouched_0 : decode cX8_dropIfTouched 0 = .ok (.iload_n 1, 1) := by decide +kernel
theorem dX8_dropIfTouched_1 : decode cX8_dropIfTouched 1 = .ok (.aload_n 0, 1) := by decide +kernel
theorem dX8_dropIfTouched_2 : decode cX8_dropIfTouched 2 = .ok (.getfield 28, 3) := by decide +kernel
theorem dX8_dropIfTouched_5 : decode cX8_dropIfTouched 5 = .ok (.if_icmp .ge 15, 3) := by decide +kernel
theorem dX8_dropIfTouched_8 : decode cX8_dropIfTouched 8 = .ok (.iload_n 2, 1) := by decide +kernel
theorem dX8_dropIfTouched_9 : decode cX8_dropIfTouched 9 = .ok (.aload_n 0, 1) := by decide +kernel
theorem dX8_dropIfTouched_10 : decode cX8_dropIfTouched 10 = .ok (.getfield 25, 3) := by decide +kernel
theorem dX8_dropIfTouched_13 : decode cX8_dropIfTouched 13 = .ok (.if_icmp .le 7, 3) := by decide +kernel
theorem dX8_dropIfTouched_16 : decode cX8_dropIfTouched 16 = .ok (.aload_n 0, 1) := by decide +kernel
theorem dX8_dropIfTouched_17 : decode cX8_dropIfTouched 17 = .ok (.invokevirtual 41, 3) := by decide +kernel
theorem dX8_dropIfTouched_20 : decode cX8_dropIfTouched 20 = .ok (.return_, 1) := by decide +kernel
theorem dX8_cachedNodes_0 : decode cX8_cachedNodes 0 = .ok (.aload_n 0, 1) := by decide +kernel
theorem dX8_cachedNodes_1 : decode cX8_cachedNodes 1 = .ok (.getfield 31, 3) := by decide +kernel
theorem dX8_cachedNodes_4 : decode cX8_cachedNodes 4 = .ok (.iconst (-1), 1) := by decide +kernel
theorem dX8_cachedNodes_5 : decode cX8_cachedNodes 5 = .ok (.if_icmp .ne 11, 3) := by decide +kernel
theorem dX8_cachedNodes_8 : decode cX8_cachedNodes 8 = .ok (.aload_n 0, 1) := by decide +kernel
theorem dX8_cachedNodes_9 : decode cX8_cachedNodes 9 = .ok (.aload_n 0, 1) := by decide +kernel
theorem dX8_cachedNodes_10 : decode cX8_cachedNodes 10 = .ok (.invokevirtual 53, 3) := by decide +kernel
theorem dX8_cachedNodes_13 : decode cX8_cachedNodes 13 = .ok (.putfield 31, 3) := by decide +kernel
theorem dX8_cachedNodes_16 : decode cX8_cachedNodes 16 = .ok (.aload_n 0, 1) := by decide +kernel
theorem dX8_cachedNodes_17 : decode cX8_cachedNodes 17 = .ok (.getfield 31, 3) := by decide +kernel
theorem dX8_cachedNodes_20 : decode cX8_cachedNodes 20 = .ok (.ireturn, 1) := by decide +kernel
theorem dX8_countNodes_0 : decode cX8_countNodes 0 = .ok (.aload_n 0, 1) := by decide +kernel
theorem dX8_countNodes_1 : decode cX8_countNodes 1 = .ok (.dup, 1) := by decide +kernel
theorem dX8_countNodes_2 : decode cX8_countNodes 2 = .ok (.getfield 18, 3) := by decide +kernel
theorem dX8_countNodes_5 : decode cX8_countNodes 5 = .ok (.iconst 1, 1) := by decide +kernel
theorem dX8_countNodes_6 : decode cX8_countNodes 6 = .ok (.iadd, 1) := by decide +kernel
theorem dX8_countNodes_7 : decode cX8_countNodes 7 = .ok (.putfield 18, 3) := by decide +kernel
theorem dX8_countNodes_10 : decode cX8_countNodes 10 = .ok (.aload_n 0, 1) := by decide +kernel
theorem dX8_countNodes_11 : decode cX8_countNodes 11 = .ok (.iconst 0, 1) := by decide +kernel
theorem dX8_countNodes_12 : decode cX8_countNodes 12 = .ok (.putfield 22, 3) := by decide +kernel
theorem dX8_countNodes_15 : decode cX8_countNodes 15 = .ok (.aload_n 0, 1) := by decide +kernel
theorem dX8_countNodes_16 : decode cX8_countNodes 16 = .ok (.aload_n 0, 1) := by decide +kernel
theorem dX8_countNodes_17 : decode cX8_countNodes 17 = .ok (.getfield 37, 3) := by decide +kernel
theorem dX8_countNodes_20 : decode cX8_countNodes 20 = .ok (.aload_n 0, 1) := by decide +kernel
theorem dX8_countNodes_21 : decode cX8_countNodes 21 = .ok (.getfield 25, 3) := by decide +kernel
theorem dX8_countNodes_24 : decode cX8_countNodes 24 = .ok (.bipush 8, 2) := by decide +kernel
theorem dX8_countNodes_26 : decode cX8_countNodes 26 = .ok (.iadd, 1) := by decide +kernel
theorem dX8_countNodes_27 : decode cX8_countNodes 27 = .ok (.invokevirtual 49, 3) := by decide +kernel
theorem dX8_countNodes_30 : decode cX8_countNodes 30 = .ok (.invokevirtual 57, 3) := by decide +kernel
theorem dX8_countNodes_33 : decode cX8_countNodes 33 = .ok (.iconst 0, 1) := by decide +kernel
theorem dX8_countNodes_34 : decode cX8_countNodes 34 = .ok (.istore_n 1, 1) := by decide +kernel
theorem dX8_countNodes_35 : decode cX8_countNodes 35 = .ok (.iload_n 1, 1) := by decide +kernel
theorem dX8_countNodes_36 : decode cX8_countNodes 36 = .ok (.aload_n 0, 1) := by decide +kernel
theorem dX8_countNodes_37 : decode cX8_countNodes 37 = .ok (.getfield 22, 3) := by decide +kernel
theorem dX8_countNodes_40 : decode cX8_countNodes 40 = .ok (.if_icmp .ge 62, 3) := by decide +kernel
theorem dX8_countNodes_43 : decode cX8_countNodes 43 = .ok (.iload_n 1, 1) := by decide +kernel
theorem dX8_countNodes_44 : decode cX8_countNodes 44 = .ok (.sipush 4096, 3) := by decide +kernel
theorem dX8_countNodes_47 : decode cX8_countNodes 47 = .ok (.if_icmp .ge 55, 3) := by decide +kernel
theorem dX8_countNodes_50 : decode cX8_countNodes 50 = .ok (.aload_n 0, 1) := by decide +kernel
theorem dX8_countNodes_51 : decode cX8_countNodes 51 = .ok (.getfield 15, 3) := by decide +kernel
theorem dX8_countNodes_54 : decode cX8_countNodes 54 = .ok (.iload_n 1, 1) := by decide +kernel
theorem dX8_countNodes_55 : decode cX8_countNodes 55 = .ok (.iaload, 1) := by decide +kernel
theorem dX8_countNodes_56 : decode cX8_countNodes 56 = .ok (.istore_n 2, 1) := by decide +kernel
theorem dX8_countNodes_57 : decode cX8_countNodes 57 = .ok (.aload_n 0, 1) := by decide +kernel
theorem dX8_countNodes_58 : decode cX8_countNodes 58 = .ok (.getfield 37, 3) := by decide +kernel
theorem dX8_countNodes_61 : decode cX8_countNodes 61 = .ok (.iload_n 2, 1) := by decide +kernel
theorem dX8_countNodes_62 : decode cX8_countNodes 62 = .ok (.invokevirtual 61, 3) := by decide +kernel
theorem dX8_countNodes_65 : decode cX8_countNodes 65 = .ok (.ifCond .ne 31, 3) := by decide +kernel
theorem dX8_countNodes_68 : decode cX8_countNodes 68 = .ok (.aload_n 0, 1) := by decide +kernel
theorem dX8_countNodes_69 : decode cX8_countNodes 69 = .ok (.aload_n 0, 1) := by decide +kernel
theorem dX8_countNodes_70 : decode cX8_countNodes 70 = .ok (.getfield 37, 3) := by decide +kernel
theorem dX8_countNodes_73 : decode cX8_countNodes 73 = .ok (.iload_n 2, 1) := by decide +kernel
theorem dX8_countNodes_74 : decode cX8_countNodes 74 = .ok (.iconst 1, 1) := by decide +kernel
theorem dX8_countNodes_75 : decode cX8_countNodes 75 = .ok (.iadd, 1) := by decide +kernel
theorem dX8_countNodes_76 : decode cX8_countNodes 76 = .ok (.invokevirtual 49, 3) := by decide +kernel
theorem dX8_countNodes_79 : decode cX8_countNodes 79 = .ok (.invokevirtual 57, 3) := by decide +kernel
theorem dX8_countNodes_82 : decode cX8_countNodes 82 = .ok (.aload_n 0, 1) := by decide +kernel
theorem dX8_countNodes_83 : decode cX8_countNodes 83 = .ok (.aload_n 0, 1) := by decide +kernel
theorem dX8_countNodes_84 : decode cX8_countNodes 84 = .ok (.getfield 37, 3) := by decide +kernel
theorem dX8_countNodes_87 : decode cX8_countNodes 87 = .ok (.iload_n 2, 1) := by decide +kernel
theorem dX8_countNodes_88 : decode cX8_countNodes 88 = .ok (.iconst 5, 1) := by decide +kernel
theorem dX8_countNodes_89 : decode cX8_countNodes 89 = .ok (.iadd, 1) := by decide +kernel
theorem dX8_countNodes_90 : decode cX8_countNodes 90 = .ok (.invokevirtual 49, 3) := by decide +kernel
theorem dX8_countNodes_93 : decode cX8_countNodes 93 = .ok (.invokevirtual 57, 3) := by decide +kernel
theorem dX8_countNodes_96 : decode cX8_countNodes 96 = .ok (.iinc 1 1, 3) := by decide +kernel
theorem dX8_countNodes_99 : decode cX8_countNodes 99 = .ok (.goto (-64), 3) := by decide +kernel
theorem dX8_countNodes_102 : decode cX8_countNodes 102 = .ok (.aload_n 0, 1) := by decide +kernel
theorem dX8_countNodes_103 : decode cX8_countNodes 103 = .ok (.getfield 22, 3) := by decide +kernel
theorem dX8_countNodes_106 : decode cX8_countNodes 106 = .ok (.ireturn, 1) := by decide +kernel
theorem dX8_find_0 : decode cX8_find 0 = .ok (.iload_n 1, 1) := by decide +kernel
theorem dX8_find_1 : decode cX8_find 1 = .ok (.aload_n 0, 1) := by decide +kernel
theorem dX8_find_2 : decode cX8_find 2 = .ok (.getfield 25, 3) := by decide +kernel
theorem dX8_find_5 : decode cX8_find 5 = .ok (.if_icmp .lt 35, 3) := by decide +kernel
theorem dX8_find_8 : decode cX8_find 8 = .ok (.iload_n 1, 1) := by decide +kernel
theorem dX8_find_9 : decode cX8_find 9 = .ok (.aload_n 0, 1) := by decide +kernel
theorem dX8_find_10 : decode cX8_find 10 = .ok (.getfield 28, 3) := by decide +kernel
theorem dX8_find_13 : decode cX8_find 13 = .ok (.if_icmp .ge 27, 3) := by decide +kernel
theorem dX8_find_16 : decode cX8_find 16 = .ok (.aload_n 0, 1) := by decide +kernel
theorem dX8_find_17 : decode cX8_find 17 = .ok (.getfield 37, 3) := by decide +kernel
theorem dX8_find_20 : decode cX8_find 20 = .ok (.iload_n 1, 1) := by decide +kernel
theorem dX8_find_21 : decode cX8_find 21 = .ok (.invokevirtual 64, 3) := by decide +kernel
theorem dX8_find_24 : decode cX8_find 24 = .ok (.ifCond .eq 16, 3) := by decide +kernel
theorem dX8_find_27 : decode cX8_find 27 = .ok (.aload_n 0, 1) := by decide +kernel
theorem dX8_find_28 : decode cX8_find 28 = .ok (.getfield 9, 3) := by decide +kernel
theorem dX8_find_31 : decode cX8_find 31 = .ok (.iload_n 1, 1) := by decide +kernel
theorem dX8_find_32 : decode cX8_find 32 = .ok (.iaload, 1) := by decide +kernel
theorem dX8_find_33 : decode cX8_find 33 = .ok (.aload_n 0, 1) := by decide +kernel
theorem dX8_find_34 : decode cX8_find 34 = .ok (.getfield 18, 3) := by decide +kernel
theorem dX8_find_37 : decode cX8_find 37 = .ok (.if_icmp .ne 4, 3) := by decide +kernel
theorem dX8_find_40 : decode cX8_find 40 = .ok (.return_, 1) := by decide +kernel
theorem dX8_find_41 : decode cX8_find 41 = .ok (.aload_n 0, 1) := by decide +kernel
theorem dX8_find_42 : decode cX8_find 42 = .ok (.getfield 9, 3) := by decide +kernel
theorem dX8_find_45 : decode cX8_find 45 = .ok (.iload_n 1, 1) := by decide +kernel
theorem dX8_find_46 : decode cX8_find 46 = .ok (.aload_n 0, 1) := by decide +kernel
theorem dX8_find_47 : decode cX8_find 47 = .ok (.getfield 18, 3) := by decide +kernel
theorem dX8_find_50 : decode cX8_find 50 = .ok (.iastore, 1) := by decide +kernel
theorem dX8_find_51 : decode cX8_find 51 = .ok (.aload_n 0, 1) := by decide +kernel
theorem dX8_find_52 : decode cX8_find 52 = .ok (.iload_n 1, 1) := by decide +kernel
theorem dX8_find_53 : decode cX8_find 53 = .ok (.invokevirtual 68, 3) := by decide +kernel
theorem dX8_find_56 : decode cX8_find 56 = .ok (.ifCond .eq 33, 3) := by decide +kernel
theorem dX8_find_59 : decode cX8_find 59 = .ok (.aload_n 0, 1) := by decide +kernel
theorem dX8_find_60 : decode cX8_find 60 = .ok (.getfield 22, 3) := by decide +kernel
theorem dX8_find_63 : decode cX8_find 63 = .ok (.sipush 4096, 3) := by decide +kernel
theorem dX8_find_66 : decode cX8_find 66 = .ok (.if_icmp .ge 23, 3) := by decide +kernel
theorem dX8_find_69 : decode cX8_find 69 = .ok (.aload_n 0, 1) := by decide +kernel
theorem dX8_find_70 : decode cX8_find 70 = .ok (.getfield 15, 3) := by decide +kernel
theorem dX8_find_73 : decode cX8_find 73 = .ok (.aload_n 0, 1) := by decide +kernel
theorem dX8_find_74 : decode cX8_find 74 = .ok (.getfield 22, 3) := by decide +kernel
theorem dX8_find_77 : decode cX8_find 77 = .ok (.iload_n 1, 1) := by decide +kernel
theorem dX8_find_78 : decode cX8_find 78 = .ok (.iastore, 1) := by decide +kernel
theorem dX8_find_79 : decode cX8_find 79 = .ok (.aload_n 0, 1) := by decide +kernel
theorem dX8_find_80 : decode cX8_find 80 = .ok (.dup, 1) := by decide +kernel
theorem dX8_find_81 : decode cX8_find 81 = .ok (.getfield 22, 3) := by decide +kernel
theorem dX8_find_84 : decode cX8_find 84 = .ok (.iconst 1, 1) := by decide +kernel
theorem dX8_find_85 : decode cX8_find 85 = .ok (.iadd, 1) := by decide +kernel
theorem dX8_find_86 : decode cX8_find 86 = .ok (.putfield 22, 3) := by decide +kernel
theorem dX8_find_89 : decode cX8_find 89 = .ok (.return_, 1) := by decide +kernel
theorem dX8_isWhole_0 : decode cX8_isWhole 0 = .ok (.aload_n 0, 1) := by decide +kernel
theorem dX8_isWhole_1 : decode cX8_isWhole 1 = .ok (.getfield 28, 3) := by decide +kernel
theorem dX8_isWhole_4 : decode cX8_isWhole 4 = .ok (.iload_n 1, 1) := by decide +kernel
theorem dX8_isWhole_5 : decode cX8_isWhole 5 = .ok (.isub, 1) := by decide +kernel
theorem dX8_isWhole_6 : decode cX8_isWhole 6 = .ok (.istore_n 2, 1) := by decide +kernel
theorem dX8_isWhole_7 : decode cX8_isWhole 7 = .ok (.aload_n 0, 1) := by decide +kernel
theorem dX8_isWhole_8 : decode cX8_isWhole 8 = .ok (.getfield 37, 3) := by decide +kernel
theorem dX8_isWhole_11 : decode cX8_isWhole 11 = .ok (.iload_n 1, 1) := by decide +kernel
theorem dX8_isWhole_12 : decode cX8_isWhole 12 = .ok (.invokevirtual 61, 3) := by decide +kernel
theorem dX8_isWhole_15 : decode cX8_isWhole 15 = .ok (.tableswitch 131 0 11 #[61, 73, 75, 86, 94, 105, 131, 131, 94, 94, 113, 113], 61) := by decide +kernel
theorem dX8_isWhole_76 : decode cX8_isWhole 76 = .ok (.iload_n 2, 1) := by decide +kernel
theorem dX8_isWhole_77 : decode cX8_isWhole 77 = .ok (.bipush 9, 2) := by decide +kernel
theorem dX8_isWhole_79 : decode cX8_isWhole 79 = .ok (.if_icmp .lt 7, 3) := by decide +kernel
theorem dX8_isWhole_82 : decode cX8_isWhole 82 = .ok (.iconst 1, 1) := by decide +kernel
theorem dX8_isWhole_83 : decode cX8_isWhole 83 = .ok (.goto 4, 3) := by decide +kernel
theorem dX8_isWhole_86 : decode cX8_isWhole 86 = .ok (.iconst 0, 1) := by decide +kernel
theorem dX8_isWhole_87 : decode cX8_isWhole 87 = .ok (.ireturn, 1) := by decide +kernel
theorem dX8_isWhole_88 : decode cX8_isWhole 88 = .ok (.iconst 1, 1) := by decide +kernel
theorem dX8_isWhole_89 : decode cX8_isWhole 89 = .ok (.ireturn, 1) := by decide +kernel
theorem dX8_isWhole_90 : decode cX8_isWhole 90 = .ok (.iload_n 2, 1) := by decide +kernel
theorem dX8_isWhole_91 : decode cX8_isWhole 91 = .ok (.iconst 2, 1) := by decide +kernel
theorem dX8_isWhole_92 : decode cX8_isWhole 92 = .ok (.if_icmp .lt 7, 3) := by decide +kernel
theorem dX8_isWhole_95 : decode cX8_isWhole 95 = .ok (.iconst 1, 1) := by decide +kernel
theorem dX8_isWhole_96 : decode cX8_isWhole 96 = .ok (.goto 4, 3) := by decide +kernel
theorem dX8_isWhole_99 : decode cX8_isWhole 99 = .ok (.iconst 0, 1) := by decide +kernel
theorem dX8_isWhole_100 : decode cX8_isWhole 100 = .ok (.ireturn, 1) := by decide +kernel
theorem dX8_isWhole_101 : decode cX8_isWhole 101 = .ok (.aload_n 0, 1) := by decide +kernel
theorem dX8_isWhole_102 : decode cX8_isWhole 102 = .ok (.iload_n 1, 1) := by decide +kernel
theorem dX8_isWhole_103 : decode cX8_isWhole 103 = .ok (.iconst 1, 1) := by decide +kernel
theorem dX8_isWhole_104 : decode cX8_isWhole 104 = .ok (.iadd, 1) := by decide +kernel
theorem dX8_isWhole_105 : decode cX8_isWhole 105 = .ok (.invokevirtual 71, 3) := by decide +kernel
theorem dX8_isWhole_108 : decode cX8_isWhole 108 = .ok (.ireturn, 1) := by decide +kernel
theorem dX8_isWhole_109 : decode cX8_isWhole 109 = .ok (.iload_n 2, 1) := by decide +kernel
theorem dX8_isWhole_110 : decode cX8_isWhole 110 = .ok (.iconst 5, 1) := by decide +kernel
theorem dX8_isWhole_111 : decode cX8_isWhole 111 = .ok (.if_icmp .lt 7, 3) := by decide +kernel
theorem dX8_isWhole_114 : decode cX8_isWhole 114 = .ok (.iconst 1, 1) := by decide +kernel
theorem dX8_isWhole_115 : decode cX8_isWhole 115 = .ok (.goto 4, 3) := by decide +kernel
theorem dX8_isWhole_118 : decode cX8_isWhole 118 = .ok (.iconst 0, 1) := by decide +kernel
theorem dX8_isWhole_119 : decode cX8_isWhole 119 = .ok (.ireturn, 1) := by decide +kernel
theorem dX8_isWhole_120 : decode cX8_isWhole 120 = .ok (.aload_n 0, 1) := by decide +kernel
theorem dX8_isWhole_121 : decode cX8_isWhole 121 = .ok (.iload_n 1, 1) := by decide +kernel
theorem dX8_isWhole_122 : decode cX8_isWhole 122 = .ok (.iconst 1, 1) := by decide +kernel
theorem dX8_isWhole_123 : decode cX8_isWhole 123 = .ok (.iadd, 1) := by decide +kernel
theorem dX8_isWhole_124 : decode cX8_isWhole 124 = .ok (.invokevirtual 74, 3) := by decide +kernel
theorem dX8_isWhole_127 : decode cX8_isWhole 127 = .ok (.ireturn, 1) := by decide +kernel
theorem dX8_isWhole_128 : decode cX8_isWhole 128 = .ok (.iload_n 2, 1) := by decide +kernel
theorem dX8_isWhole_129 : decode cX8_isWhole 129 = .ok (.bipush 9, 2) := by decide +kernel
theorem dX8_isWhole_131 : decode cX8_isWhole 131 = .ok (.aload_n 0, 1) := by decide +kernel
theorem dX8_isWhole_132 : decode cX8_isWhole 132 = .ok (.iload_n 1, 1) := by decide +kernel
theorem dX8_isWhole_133 : decode cX8_isWhole 133 = .ok (.invokevirtual 77, 3) := by decide +kernel
theorem dX8_isWhole_136 : decode cX8_isWhole 136 = .ok (.iadd, 1) := by decide +kernel
theorem dX8_isWhole_137 : decode cX8_isWhole 137 = .ok (.if_icmp .lt 7, 3) := by decide +kernel
theorem dX8_isWhole_140 : decode cX8_isWhole 140 = .ok (.iconst 1, 1) := by decide +kernel
theorem dX8_isWhole_141 : decode cX8_isWhole 141 = .ok (.goto 4, 3) := by decide +kernel
theorem dX8_isWhole_144 : decode cX8_isWhole 144 = .ok (.iconst 0, 1) := by decide +kernel
theorem dX8_isWhole_145 : decode cX8_isWhole 145 = .ok (.ireturn, 1) := by decide +kernel
theorem dX8_isWhole_146 : decode cX8_isWhole 146 = .ok (.iconst 0, 1) := by decide +kernel
theorem dX8_isWhole_147 : decode cX8_isWhole 147 = .ok (.ireturn, 1) := by decide +kernel
theorem dX8_argumentBytes_0 : decode cX8_argumentBytes 0 = .ok (.aload_n 0, 1) := by decide +kernel
theorem dX8_argumentBytes_1 : decode cX8_argumentBytes 1 = .ok (.getfield 37, 3) := by decide +kernel
theorem dX8_argumentBytes_4 : decode cX8_argumentBytes 4 = .ok (.iload_n 1, 1) := by decide +kernel
theorem dX8_argumentBytes_5 : decode cX8_argumentBytes 5 = .ok (.iconst 5, 1) := by decide +kernel
theorem dX8_argumentBytes_6 : decode cX8_argumentBytes 6 = .ok (.iadd, 1) := by decide +kernel
theorem dX8_argumentBytes_7 : decode cX8_argumentBytes 7 = .ok (.invokevirtual 49, 3) := by decide +kernel
theorem dX8_argumentBytes_10 : decode cX8_argumentBytes 10 = .ok (.istore_n 2, 1) := by decide +kernel
theorem dX8_argumentBytes_11 : decode cX8_argumentBytes 11 = .ok (.iload_n 2, 1) := by decide +kernel
theorem dX8_argumentBytes_12 : decode cX8_argumentBytes 12 = .ok (.ifCond .lt 14, 3) := by decide +kernel
theorem dX8_argumentBytes_15 : decode cX8_argumentBytes 15 = .ok (.iload_n 2, 1) := by decide +kernel
theorem dX8_argumentBytes_16 : decode cX8_argumentBytes 16 = .ok (.iconst 4, 1) := by decide +kernel
theorem dX8_argumentBytes_17 : decode cX8_argumentBytes 17 = .ok (.if_icmp .gt 9, 3) := by decide +kernel
theorem dX8_argumentBytes_20 : decode cX8_argumentBytes 20 = .ok (.iconst 4, 1) := by decide +kernel
theorem dX8_argumentBytes_21 : decode cX8_argumentBytes 21 = .ok (.iload_n 2, 1) := by decide +kernel
theorem dX8_argumentBytes_22 : decode cX8_argumentBytes 22 = .ok (.imul, 1) := by decide +kernel
theorem dX8_argumentBytes_23 : decode cX8_argumentBytes 23 = .ok (.goto 4, 3) := by decide +kernel
theorem dX8_argumentBytes_26 : decode cX8_argumentBytes 26 = .ok (.iconst 0, 1) := by decide +kernel
theorem dX8_argumentBytes_27 : decode cX8_argumentBytes 27 = .ok (.ireturn, 1) := by decide +kernel
theorem dX8_hasEndOfBytes_0 : decode cX8_hasEndOfBytes 0 = .ok (.iload_n 1, 1) := by decide +kernel
theorem dX8_hasEndOfBytes_1 : decode cX8_hasEndOfBytes 1 = .ok (.istore_n 2, 1) := by decide +kernel
theorem dX8_hasEndOfBytes_2 : decode cX8_hasEndOfBytes 2 = .ok (.iload_n 2, 1) := by decide +kernel
theorem dX8_hasEndOfBytes_3 : decode cX8_hasEndOfBytes 3 = .ok (.aload_n 0, 1) := by decide +kernel
theorem dX8_hasEndOfBytes_4 : decode cX8_hasEndOfBytes 4 = .ok (.getfield 28, 3) := by decide +kernel
theorem dX8_hasEndOfBytes_7 : decode cX8_hasEndOfBytes 7 = .ok (.if_icmp .ge 22, 3) := by decide +kernel
theorem dX8_hasEndOfBytes_10 : decode cX8_hasEndOfBytes 10 = .ok (.aload_n 0, 1) := by decide +kernel
theorem dX8_hasEndOfBytes_11 : decode cX8_hasEndOfBytes 11 = .ok (.getfield 37, 3) := by decide +kernel
theorem dX8_hasEndOfBytes_14 : decode cX8_hasEndOfBytes 14 = .ok (.iload_n 2, 1) := by decide +kernel
theorem dX8_hasEndOfBytes_15 : decode cX8_hasEndOfBytes 15 = .ok (.invokevirtual 61, 3) := by decide +kernel
theorem dX8_hasEndOfBytes_18 : decode cX8_hasEndOfBytes 18 = .ok (.ifCond .ne 5, 3) := by decide +kernel
theorem dX8_hasEndOfBytes_21 : decode cX8_hasEndOfBytes 21 = .ok (.iconst 1, 1) := by decide +kernel
theorem dX8_hasEndOfBytes_22 : decode cX8_hasEndOfBytes 22 = .ok (.ireturn, 1) := by decide +kernel
theorem dX8_hasEndOfBytes_23 : decode cX8_hasEndOfBytes 23 = .ok (.iinc 2 1, 3) := by decide +kernel
theorem dX8_hasEndOfBytes_26 : decode cX8_hasEndOfBytes 26 = .ok (.goto (-24), 3) := by decide +kernel
theorem dX8_hasEndOfBytes_29 : decode cX8_hasEndOfBytes 29 = .ok (.iconst 0, 1) := by decide +kernel
theorem dX8_hasEndOfBytes_30 : decode cX8_hasEndOfBytes 30 = .ok (.ireturn, 1) := by decide +kernel
theorem dX8_hasEndOfFours_0 : decode cX8_hasEndOfFours 0 = .ok (.iload_n 1, 1) := by decide +kernel
theorem dX8_hasEndOfFours_1 : decode cX8_hasEndOfFours 1 = .ok (.istore_n 2, 1) := by decide +kernel
theorem dX8_hasEndOfFours_2 : decode cX8_hasEndOfFours 2 = .ok (.iload_n 2, 1) := by decide +kernel
theorem dX8_hasEndOfFours_3 : decode cX8_hasEndOfFours 3 = .ok (.iconst 4, 1) := by decide +kernel
theorem dX8_hasEndOfFours_4 : decode cX8_hasEndOfFours 4 = .ok (.iadd, 1) := by decide +kernel
theorem dX8_hasEndOfFours_5 : decode cX8_hasEndOfFours 5 = .ok (.aload_n 0, 1) := by decide +kernel
theorem dX8_hasEndOfFours_6 : decode cX8_hasEndOfFours 6 = .ok (.getfield 28, 3) := by decide +kernel
theorem dX8_hasEndOfFours_9 : decode cX8_hasEndOfFours 9 = .ok (.if_icmp .gt 22, 3) := by decide +kernel
theorem dX8_hasEndOfFours_12 : decode cX8_hasEndOfFours 12 = .ok (.aload_n 0, 1) := by decide +kernel
theorem dX8_hasEndOfFours_13 : decode cX8_hasEndOfFours 13 = .ok (.getfield 37, 3) := by decide +kernel
theorem dX8_hasEndOfFours_16 : decode cX8_hasEndOfFours 16 = .ok (.iload_n 2, 1) := by decide +kernel
theorem dX8_hasEndOfFours_17 : decode cX8_hasEndOfFours 17 = .ok (.invokevirtual 49, 3) := by decide +kernel
theorem dX8_hasEndOfFours_20 : decode cX8_hasEndOfFours 20 = .ok (.ifCond .ne 5, 3) := by decide +kernel
theorem dX8_hasEndOfFours_23 : decode cX8_hasEndOfFours 23 = .ok (.iconst 1, 1) := by decide +kernel
theorem dX8_hasEndOfFours_24 : decode cX8_hasEndOfFours 24 = .ok (.ireturn, 1) := by decide +kernel
theorem dX8_hasEndOfFours_25 : decode cX8_hasEndOfFours 25 = .ok (.iinc 2 4, 3) := by decide +kernel
theorem dX8_hasEndOfFours_28 : decode cX8_hasEndOfFours 28 = .ok (.goto (-26), 3) := by decide +kernel
theorem dX8_hasEndOfFours_31 : decode cX8_hasEndOfFours 31 = .ok (.iconst 0, 1) := by decide +kernel
theorem dX8_hasEndOfFours_32 : decode cX8_hasEndOfFours 32 = .ok (.ireturn, 1) := by decide +kernel
theorem dX9_init_0 : decode cX9_init 0 = .ok (.aload_n 0, 1) := by decide +kernel
theorem dX9_init_1 : decode cX9_init 1 = .ok (.invokespecial 3, 3) := by decide +kernel
theorem dX9_init_4 : decode cX9_init 4 = .ok (.aload_n 0, 1) := by decide +kernel
theorem dX9_init_5 : decode cX9_init 5 = .ok (.iconst 0, 1) := by decide +kernel
theorem dX9_init_6 : decode cX9_init 6 = .ok (.putfield 9, 3) := by decide +kernel
theorem dX9_init_9 : decode cX9_init 9 = .ok (.aload_n 0, 1) := by decide +kernel
theorem dX9_init_10 : decode cX9_init 10 = .ok (.iconst 0, 1) := by decide +kernel
theorem dX9_init_11 : decode cX9_init 11 = .ok (.putfield 15, 3) := by decide +kernel
theorem dX9_init_14 : decode cX9_init 14 = .ok (.aload_n 0, 1) := by decide +kernel
theorem dX9_init_15 : decode cX9_init 15 = .ok (.iconst 0, 1) := by decide +kernel
theorem dX9_init_16 : decode cX9_init 16 = .ok (.putfield 18, 3) := by decide +kernel
theorem dX9_init_19 : decode cX9_init 19 = .ok (.aload_n 0, 1) := by decide +kernel
theorem dX9_init_20 : decode cX9_init 20 = .ok (.iconst 0, 1) := by decide +kernel
theorem dX9_init_21 : decode cX9_init 21 = .ok (.putfield 21, 3) := by decide +kernel
theorem dX9_init_24 : decode cX9_init 24 = .ok (.aload_n 0, 1) := by decide +kernel
theorem dX9_init_25 : decode cX9_init 25 = .ok (.iconst 0, 1) := by decide +kernel
theorem dX9_init_26 : decode cX9_init 26 = .ok (.putfield 24, 3) := by decide +kernel
theorem dX9_init_29 : decode cX9_init 29 = .ok (.aload_n 0, 1) := by decide +kernel
theorem dX9_init_30 : decode cX9_init 30 = .ok (.iconst 0, 1) := by decide +kernel
theorem dX9_init_31 : decode cX9_init 31 = .ok (.putfield 27, 3) := by decide +kernel
theorem dX9_init_34 : decode cX9_init 34 = .ok (.aload_n 0, 1) := by decide +kernel
theorem dX9_init_35 : decode cX9_init 35 = .ok (.iconst 0, 1) := by decide +kernel
theorem dX9_init_36 : decode cX9_init 36 = .ok (.putfield 30, 3) := by decide +kernel
theorem dX9_init_39 : decode cX9_init 39 = .ok (.aload_n 0, 1) := by decide +kernel
theorem dX9_init_40 : decode cX9_init 40 = .ok (.iconst 0, 1) := by decide +kernel
theorem dX9_init_41 : decode cX9_init 41 = .ok (.putfield 33, 3) := by decide +kernel
theorem dX9_init_44 : decode cX9_init 44 = .ok (.return_, 1) := by decide +kernel
theorem dX9_tell_0 : decode cX9_tell 0 = .ok (.iload_n 1, 1) := by decide +kernel
theorem dX9_tell_1 : decode cX9_tell 1 = .ok (.tableswitch 87 0 7 #[47, 52, 57, 62, 67, 72, 77, 82], 47) := by decide +kernel
theorem dX9_tell_48 : decode cX9_tell 48 = .ok (.aload_n 0, 1) := by decide +kernel
theorem dX9_tell_49 : decode cX9_tell 49 = .ok (.getfield 9, 3) := by decide +kernel
theorem dX9_tell_52 : decode cX9_tell 52 = .ok (.ireturn, 1) := by decide +kernel
theorem dX9_tell_53 : decode cX9_tell 53 = .ok (.aload_n 0, 1) := by decide +kernel
theorem dX9_tell_54 : decode cX9_tell 54 = .ok (.getfield 15, 3) := by decide +kernel
theorem dX9_tell_57 : decode cX9_tell 57 = .ok (.ireturn, 1) := by decide +kernel
theorem dX9_tell_58 : decode cX9_tell 58 = .ok (.aload_n 0, 1) := by decide +kernel
theorem dX9_tell_59 : decode cX9_tell 59 = .ok (.getfield 18, 3) := by decide +kernel
theorem dX9_tell_62 : decode cX9_tell 62 = .ok (.ireturn, 1) := by decide +kernel
theorem dX9_tell_63 : decode cX9_tell 63 = .ok (.aload_n 0, 1) := by decide +kernel
theorem dX9_tell_64 : decode cX9_tell 64 = .ok (.getfield 21, 3) := by decide +kernel
theorem dX9_tell_67 : decode cX9_tell 67 = .ok (.ireturn, 1) := by decide +kernel
theorem dX9_tell_68 : decode cX9_tell 68 = .ok (.aload_n 0, 1) := by decide +kernel
theorem dX9_tell_69 : decode cX9_tell 69 = .ok (.getfield 24, 3) := by decide +kernel
theorem dX9_tell_72 : decode cX9_tell 72 = .ok (.ireturn, 1) := by decide +kernel
theorem dX9_tell_73 : decode cX9_tell 73 = .ok (.aload_n 0, 1) := by decide +kernel
theorem dX9_tell_74 : decode cX9_tell 74 = .ok (.getfield 27, 3) := by decide +kernel
theorem dX9_tell_77 : decode cX9_tell 77 = .ok (.ireturn, 1) := by decide +kernel
theorem dX9_tell_78 : decode cX9_tell 78 = .ok (.aload_n 0, 1) := by decide +kernel
theorem dX9_tell_79 : decode cX9_tell 79 = .ok (.getfield 30, 3) := by decide +kernel
theorem dX9_tell_82 : decode cX9_tell 82 = .ok (.ireturn, 1) := by decide +kernel
theorem dX9_tell_83 : decode cX9_tell 83 = .ok (.aload_n 0, 1) := by decide +kernel
theorem dX9_tell_84 : decode cX9_tell 84 = .ok (.getfield 33, 3) := by decide +kernel
theorem dX9_tell_87 : decode cX9_tell 87 = .ok (.ireturn, 1) := by decide +kernel
theorem dX9_tell_88 : decode cX9_tell 88 = .ok (.bipush (-2), 2) := by decide +kernel
theorem dX9_tell_90 : decode cX9_tell 90 = .ok (.ireturn, 1) := by decide +kernel
theorem dX10_init_0 : decode cX10_init 0 = .ok (.aload_n 0, 1) := by decide +kernel
theorem dX10_init_1 : decode cX10_init 1 = .ok (.invokespecial 3, 3) := by decide +kernel
theorem dX10_init_4 : decode cX10_init 4 = .ok (.aload_n 0, 1) := by decide +kernel
theorem dX10_init_5 : decode cX10_init 5 = .ok (.bipush 20, 2) := by decide +kernel
theorem dX10_init_7 : decode cX10_init 7 = .ok (.bipush 120, 2) := by decide +kernel
theorem dX10_init_9 : decode cX10_init 9 = .ok (.multianewarray 11 2, 4) := by decide +kernel
theorem dX10_init_13 : decode cX10_init 13 = .ok (.putfield 13, 3) := by decide +kernel
theorem dX10_init_16 : decode cX10_init 16 = .ok (.aload_n 0, 1) := by decide +kernel
theorem dX10_init_17 : decode cX10_init 17 = .ok (.bipush 20, 2) := by decide +kernel
theorem dX10_init_19 : decode cX10_init 19 = .ok (.newarray .int, 2) := by decide +kernel
theorem dX10_init_21 : decode cX10_init 21 = .ok (.putfield 16, 3) := by decide +kernel
theorem dX10_init_24 : decode cX10_init 24 = .ok (.aload_n 0, 1) := by decide +kernel
theorem dX10_init_25 : decode cX10_init 25 = .ok (.bipush 20, 2) := by decide +kernel
theorem dX10_init_27 : decode cX10_init 27 = .ok (.newarray .int, 2) := by decide +kernel
theorem dX10_init_29 : decode cX10_init 29 = .ok (.putfield 20, 3) := by decide +kernel
theorem dX10_init_32 : decode cX10_init 32 = .ok (.aload_n 0, 1) := by decide +kernel
theorem dX10_init_33 : decode cX10_init 33 = .ok (.bipush 20, 2) := by decide +kernel
theorem dX10_init_35 : decode cX10_init 35 = .ok (.newarray .int, 2) := by decide +kernel
theorem dX10_init_37 : decode cX10_init 37 = .ok (.putfield 23, 3) := by decide +kernel
theorem dX10_init_40 : decode cX10_init 40 = .ok (.aload_n 0, 1) := by decide +kernel
theorem dX10_init_41 : decode cX10_init 41 = .ok (.iconst 0, 1) := by decide +kernel
theorem dX10_init_42 : decode cX10_init 42 = .ok (.putfield 26, 3) := by decide +kernel
theorem dX10_init_45 : decode cX10_init 45 = .ok (.return_, 1) := by decide +kernel
theorem dX10_add_0 : decode cX10_add 0 = .ok (.aload_n 0, 1) := by decide +kernel
theorem dX10_add_1 : decode cX10_add 1 = .ok (.getfield 26, 3) := by decide +kernel
theorem dX10_add_4 : decode cX10_add 4 = .ok (.bipush 20, 2) := by decide +kernel
theorem dX10_add_6 : decode cX10_add 6 = .ok (.if_icmp .lt 6, 3) := by decide +kernel
theorem dX10_add_9 : decode cX10_add 9 = .ok (.bipush (-4), 2) := by decide +kernel
theorem dX10_add_11 : decode cX10_add 11 = .ok (.ireturn, 1) := by decide +kernel
theorem dX10_add_12 : decode cX10_add 12 = .ok (.aload_n 0, 1) := by decide +kernel
theorem dX10_add_13 : decode cX10_add 13 = .ok (.getfield 26, 3) := by decide +kernel
theorem dX10_add_16 : decode cX10_add 16 = .ok (.istore_n 3, 1) := by decide +kernel
theorem dX10_add_17 : decode cX10_add 17 = .ok (.iconst 0, 1) := by decide +kernel
theorem dX10_add_18 : decode cX10_add 18 = .ok (.istore 4, 2) := by decide +kernel
theorem dX10_add_20 : decode cX10_add 20 = .ok (.iload 4, 2) := by decide +kernel
theorem dX10_add_22 : decode cX10_add 22 = .ok (.iload_n 2, 1) := by decide +kernel
theorem dX10_add_23 : decode cX10_add 23 = .ok (.if_icmp .ge 36, 3) := by decide +kernel
theorem dX10_add_26 : decode cX10_add 26 = .ok (.iload 4, 2) := by decide +kernel
theorem dX10_add_28 : decode cX10_add 28 = .ok (.bipush 120, 2) := by decide +kernel
theorem dX10_add_30 : decode cX10_add 30 = .ok (.if_icmp .ge 29, 3) := by decide +kernel
theorem dX10_add_33 : decode cX10_add 33 = .ok (.iload 4, 2) := by decide +kernel
theorem dX10_add_35 : decode cX10_add 35 = .ok (.aload_n 1, 1) := by decide +kernel
theorem dX10_add_36 : decode cX10_add 36 = .ok (.arraylength, 1) := by decide +kernel
theorem dX10_add_37 : decode cX10_add 37 = .ok (.if_icmp .ge 22, 3) := by decide +kernel
theorem dX10_add_40 : decode cX10_add 40 = .ok (.aload_n 0, 1) := by decide +kernel
theorem dX10_add_41 : decode cX10_add 41 = .ok (.getfield 13, 3) := by decide +kernel
theorem dX10_add_44 : decode cX10_add 44 = .ok (.iload_n 3, 1) := by decide +kernel
theorem dX10_add_45 : decode cX10_add 45 = .ok (.aaload, 1) := by decide +kernel
theorem dX10_add_46 : decode cX10_add 46 = .ok (.iload 4, 2) := by decide +kernel
theorem dX10_add_48 : decode cX10_add 48 = .ok (.aload_n 1, 1) := by decide +kernel
theorem dX10_add_49 : decode cX10_add 49 = .ok (.iload 4, 2) := by decide +kernel
theorem dX10_add_51 : decode cX10_add 51 = .ok (.iaload, 1) := by decide +kernel
theorem dX10_add_52 : decode cX10_add 52 = .ok (.iastore, 1) := by decide +kernel
theorem dX10_add_53 : decode cX10_add 53 = .ok (.iinc 4 1, 3) := by decide +kernel
theorem dX10_add_56 : decode cX10_add 56 = .ok (.goto (-36), 3) := by decide +kernel
theorem dX10_add_59 : decode cX10_add 59 = .ok (.aload_n 0, 1) := by decide +kernel
theorem dX10_add_60 : decode cX10_add 60 = .ok (.getfield 16, 3) := by decide +kernel
theorem dX10_add_63 : decode cX10_add 63 = .ok (.iload_n 3, 1) := by decide +kernel
theorem dX10_add_64 : decode cX10_add 64 = .ok (.iload_n 2, 1) := by decide +kernel
theorem dX10_add_65 : decode cX10_add 65 = .ok (.iastore, 1) := by decide +kernel
theorem dX10_add_66 : decode cX10_add 66 = .ok (.aload_n 0, 1) := by decide +kernel
theorem dX10_add_67 : decode cX10_add 67 = .ok (.getfield 20, 3) := by decide +kernel
theorem dX10_add_70 : decode cX10_add 70 = .ok (.iload_n 3, 1) := by decide +kernel
theorem dX10_add_71 : decode cX10_add 71 = .ok (.iconst (-1), 1) := by decide +kernel
theorem dX10_add_72 : decode cX10_add 72 = .ok (.iastore, 1) := by decide +kernel
theorem dX10_add_73 : decode cX10_add 73 = .ok (.aload_n 0, 1) := by decide +kernel
theorem dX10_add_74 : decode cX10_add 74 = .ok (.getfield 23, 3) := by decide +kernel
theorem dX10_add_77 : decode cX10_add 77 = .ok (.iload_n 3, 1) := by decide +kernel
theorem dX10_add_78 : decode cX10_add 78 = .ok (.iconst 0, 1) := by decide +kernel
theorem dX10_add_79 : decode cX10_add 79 = .ok (.iastore, 1) := by decide +kernel
theorem dX10_add_80 : decode cX10_add 80 = .ok (.aload_n 0, 1) := by decide +kernel
theorem dX10_add_81 : decode cX10_add 81 = .ok (.dup, 1) := by decide +kernel
theorem dX10_add_82 : decode cX10_add 82 = .ok (.getfield 26, 3) := by decide +kernel
theorem dX10_add_85 : decode cX10_add 85 = .ok (.iconst 1, 1) := by decide +kernel
theorem dX10_add_86 : decode cX10_add 86 = .ok (.iadd, 1) := by decide +kernel
theorem dX10_add_87 : decode cX10_add 87 = .ok (.putfield 26, 3) := by decide +kernel
theorem dX10_add_90 : decode cX10_add 90 = .ok (.iload_n 3, 1) := by decide +kernel
theorem dX10_add_91 : decode cX10_add 91 = .ok (.ireturn, 1) := by decide +kernel
theorem dX11_init_0 : decode cX11_init 0 = .ok (.aload_n 0, 1) := by decide +kernel
theorem dX11_init_1 : decode cX11_init 1 = .ok (.invokespecial 1, 3) := by decide +kernel
theorem dX11_init_4 : decode cX11_init 4 = .ok (.aload_n 0, 1) := by decide +kernel
theorem dX11_init_5 : decode cX11_init 5 = .ok (.new 7, 3) := by decide +kernel
theorem dX11_init_8 : decode cX11_init 8 = .ok (.dup, 1) := by decide +kernel
theorem dX11_init_9 : decode cX11_init 9 = .ok (.invokespecial 9, 3) := by decide +kernel
theorem dX11_init_12 : decode cX11_init 12 = .ok (.putfield 10, 3) := by decide +kernel
theorem dX11_init_15 : decode cX11_init 15 = .ok (.aload_n 0, 1) := by decide +kernel
theorem dX11_init_16 : decode cX11_init 16 = .ok (.new 16, 3) := by decide +kernel
theorem dX11_init_19 : decode cX11_init 19 = .ok (.dup, 1) := by decide +kernel
theorem dX11_init_20 : decode cX11_init 20 = .ok (.aload_n 0, 1) := by decide +kernel
theorem dX11_init_21 : decode cX11_init 21 = .ok (.getfield 10, 3) := by decide +kernel
theorem dX11_init_24 : decode cX11_init 24 = .ok (.invokespecial 18, 3) := by decide +kernel
theorem dX11_init_27 : decode cX11_init 27 = .ok (.putfield 21, 3) := by decide +kernel
theorem dX11_init_30 : decode cX11_init 30 = .ok (.aload_n 0, 1) := by decide +kernel
theorem dX11_init_31 : decode cX11_init 31 = .ok (.new 25, 3) := by decide +kernel
theorem dX11_init_34 : decode cX11_init 34 = .ok (.dup, 1) := by decide +kernel
theorem dX11_init_35 : decode cX11_init 35 = .ok (.aload_n 0, 1) := by decide +kernel
theorem dX11_init_36 : decode cX11_init 36 = .ok (.getfield 10, 3) := by decide +kernel
theorem dX11_init_39 : decode cX11_init 39 = .ok (.aload_n 0, 1) := by decide +kernel
theorem dX11_init_40 : decode cX11_init 40 = .ok (.getfield 21, 3) := by decide +kernel
theorem dX11_init_43 : decode cX11_init 43 = .ok (.invokespecial 27, 3) := by decide +kernel
theorem dX11_init_46 : decode cX11_init 46 = .ok (.putfield 30, 3) := by decide +kernel
theorem dX11_init_49 : decode cX11_init 49 = .ok (.aload_n 0, 1) := by decide +kernel
theorem dX11_init_50 : decode cX11_init 50 = .ok (.new 34, 3) := by decide +kernel
theorem dX11_init_53 : decode cX11_init 53 = .ok (.dup, 1) := by decide +kernel
theorem dX11_init_54 : decode cX11_init 54 = .ok (.aload_n 0, 1) := by decide +kernel
theorem dX11_init_55 : decode cX11_init 55 = .ok (.getfield 10, 3) := by decide +kernel
theorem dX11_init_58 : decode cX11_init 58 = .ok (.aload_n 0, 1) := by decide +kernel
theorem dX11_init_59 : decode cX11_init 59 = .ok (.getfield 21, 3) := by decide +kernel
theorem dX11_init_62 : decode cX11_init 62 = .ok (.invokespecial 36, 3) := by decide +kernel
theorem dX11_init_65 : decode cX11_init 65 = .ok (.putfield 37, 3) := by decide +kernel
theorem dX11_init_68 : decode cX11_init 68 = .ok (.aload_n 0, 1) := by decide +kernel
theorem dX11_init_69 : decode cX11_init 69 = .ok (.sipush 600, 3) := by decide +kernel
theorem dX11_init_72 : decode cX11_init 72 = .ok (.newarray .byte, 2) := by decide +kernel
theorem dX11_init_74 : decode cX11_init 74 = .ok (.putfield 41, 3) := by decide +kernel
theorem dX11_init_77 : decode cX11_init 77 = .ok (.aload_n 0, 1) := by decide +kernel
theorem dX11_init_78 : decode cX11_init 78 = .ok (.bipush 120, 2) := by decide +kernel
theorem dX11_init_80 : decode cX11_init 80 = .ok (.newarray .int, 2) := by decide +kernel
theorem dX11_init_82 : decode cX11_init 82 = .ok (.putfield 45, 3) := by decide +kernel
theorem dX11_init_85 : decode cX11_init 85 = .ok (.aload_n 0, 1) := by decide +kernel
theorem dX11_init_86 : decode cX11_init 86 = .ok (.iconst 0, 1) := by decide +kernel
theorem dX11_init_87 : decode cX11_init 87 = .ok (.putfield 49, 3) := by decide +kernel
theorem dX11_init_90 : decode cX11_init 90 = .ok (.aload_n 0, 1) := by decide +kernel
theorem dX11_init_91 : decode cX11_init 91 = .ok (.iconst 0, 1) := by decide +kernel
theorem dX11_init_92 : decode cX11_init 92 = .ok (.putfield 53, 3) := by decide +kernel
theorem dX11_init_95 : decode cX11_init 95 = .ok (.return_, 1) := by decide +kernel
theorem dX11_feed_0 : decode cX11_feed 0 = .ok (.iload_n 1, 1) := by decide +kernel
theorem dX11_feed_1 : decode cX11_feed 1 = .ok (.iconst 1, 1) := by decide +kernel
theorem dX11_feed_2 : decode cX11_feed 2 = .ok (.if_icmp .lt 9, 3) := by decide +kernel
theorem dX11_feed_5 : decode cX11_feed 5 = .ok (.iload_n 1, 1) := by decide +kernel
theorem dX11_feed_6 : decode cX11_feed 6 = .ok (.bipush 8, 2) := by decide +kernel
theorem dX11_feed_8 : decode cX11_feed 8 = .ok (.if_icmp .le 6, 3) := by decide +kernel
theorem dX11_feed_11 : decode cX11_feed 11 = .ok (.bipush (-2), 2) := by decide +kernel
theorem dX11_feed_13 : decode cX11_feed 13 = .ok (.ireturn, 1) := by decide +kernel
theorem dX11_feed_14 : decode cX11_feed 14 = .ok (.aload_n 0, 1) := by decide +kernel
theorem dX11_feed_15 : decode cX11_feed 15 = .ok (.getfield 49, 3) := by decide +kernel
theorem dX11_feed_18 : decode cX11_feed 18 = .ok (.sipush 600, 3) := by decide +kernel
theorem dX11_feed_21 : decode cX11_feed 21 = .ok (.iload_n 1, 1) := by decide +kernel
theorem dX11_feed_22 : decode cX11_feed 22 = .ok (.isub, 1) := by decide +kernel
theorem dX11_feed_23 : decode cX11_feed 23 = .ok (.if_icmp .le 6, 3) := by decide +kernel
theorem dX11_feed_26 : decode cX11_feed 26 = .ok (.bipush (-4), 2) := by decide +kernel
theorem dX11_feed_28 : decode cX11_feed 28 = .ok (.ireturn, 1) := by decide +kernel
theorem dX11_feed_29 : decode cX11_feed 29 = .ok (.iload_n 1, 1) := by decide +kernel
theorem dX11_feed_30 : decode cX11_feed 30 = .ok (.iconst 1, 1) := by decide +kernel
theorem dX11_feed_31 : decode cX11_feed 31 = .ok (.isub, 1) := by decide +kernel
theorem dX11_feed_32 : decode cX11_feed 32 = .ok (.istore 4, 2) := by decide +kernel
theorem dX11_feed_34 : decode cX11_feed 34 = .ok (.iload 4, 2) := by decide +kernel
theorem dX11_feed_36 : decode cX11_feed 36 = .ok (.ifCond .lt 37, 3) := by decide +kernel
theorem dX11_feed_39 : decode cX11_feed 39 = .ok (.aload_n 0, 1) := by decide +kernel
theorem dX11_feed_40 : decode cX11_feed 40 = .ok (.getfield 41, 3) := by decide +kernel
theorem dX11_feed_43 : decode cX11_feed 43 = .ok (.aload_n 0, 1) := by decide +kernel
theorem dX11_feed_44 : decode cX11_feed 44 = .ok (.getfield 49, 3) := by decide +kernel
theorem dX11_feed_47 : decode cX11_feed 47 = .ok (.lload_n 2, 1) := by decide +kernel
theorem dX11_feed_48 : decode cX11_feed 48 = .ok (.bipush 8, 2) := by decide +kernel
theorem dX11_feed_50 : decode cX11_feed 50 = .ok (.iload 4, 2) := by decide +kernel
theorem dX11_feed_52 : decode cX11_feed 52 = .ok (.imul, 1) := by decide +kernel
theorem dX11_feed_53 : decode cX11_feed 53 = .ok (.lshr, 1) := by decide +kernel
theorem dX11_feed_54 : decode cX11_feed 54 = .ok (.l2i, 1) := by decide +kernel
theorem dX11_feed_55 : decode cX11_feed 55 = .ok (.i2b, 1) := by decide +kernel
theorem dX11_feed_56 : decode cX11_feed 56 = .ok (.bastore, 1) := by decide +kernel
theorem dX11_feed_57 : decode cX11_feed 57 = .ok (.aload_n 0, 1) := by decide +kernel
theorem dX11_feed_58 : decode cX11_feed 58 = .ok (.dup, 1) := by decide +kernel
theorem dX11_feed_59 : decode cX11_feed 59 = .ok (.getfield 49, 3) := by decide +kernel
theorem dX11_feed_62 : decode cX11_feed 62 = .ok (.iconst 1, 1) := by decide +kernel
theorem dX11_feed_63 : decode cX11_feed 63 = .ok (.iadd, 1) := by decide +kernel
theorem dX11_feed_64 : decode cX11_feed 64 = .ok (.putfield 49, 3) := by decide +kernel
theorem dX11_feed_67 : decode cX11_feed 67 = .ok (.iinc 4 (-1), 3) := by decide +kernel
theorem dX11_feed_70 : decode cX11_feed 70 = .ok (.goto (-36), 3) := by decide +kernel
theorem dX11_feed_73 : decode cX11_feed 73 = .ok (.aload_n 0, 1) := by decide +kernel
theorem dX11_feed_74 : decode cX11_feed 74 = .ok (.getfield 49, 3) := by decide +kernel
theorem dX11_feed_77 : decode cX11_feed 77 = .ok (.ireturn, 1) := by decide +kernel
theorem dX11_load_0 : decode cX11_load 0 = .ok (.aload_n 0, 1) := by decide +kernel
theorem dX11_load_1 : decode cX11_load 1 = .ok (.getfield 49, 3) := by decide +kernel
theorem dX11_load_4 : decode cX11_load 4 = .ok (.istore_n 2, 1) := by decide +kernel
theorem dX11_load_5 : decode cX11_load 5 = .ok (.aload_n 0, 1) := by decide +kernel
theorem dX11_load_6 : decode cX11_load 6 = .ok (.iconst 0, 1) := by decide +kernel
theorem dX11_load_7 : decode cX11_load 7 = .ok (.putfield 49, 3) := by decide +kernel
theorem dX11_load_10 : decode cX11_load 10 = .ok (.iload_n 2, 1) := by decide +kernel
theorem dX11_load_11 : decode cX11_load 11 = .ok (.ifCond .ne 5, 3) := by decide +kernel
theorem dX11_load_14 : decode cX11_load 14 = .ok (.iconst 0, 1) := by decide +kernel
theorem dX11_load_15 : decode cX11_load 15 = .ok (.ireturn, 1) := by decide +kernel
theorem dX11_load_16 : decode cX11_load 16 = .ok (.iload_n 1, 1) := by decide +kernel
theorem dX11_load_17 : decode cX11_load 17 = .ok (.ifCond .lt 12, 3) := by decide +kernel
theorem dX11_load_20 : decode cX11_load 20 = .ok (.iload_n 1, 1) := by decide +kernel
theorem dX11_load_21 : decode cX11_load 21 = .ok (.sipush 4096, 3) := by decide +kernel
theorem dX11_load_24 : decode cX11_load 24 = .ok (.iload_n 2, 1) := by decide +kernel
theorem dX11_load_25 : decode cX11_load 25 = .ok (.isub, 1) := by decide +kernel
theorem dX11_load_26 : decode cX11_load 26 = .ok (.if_icmp .le 6, 3) := by decide +kernel
theorem dX11_load_29 : decode cX11_load 29 = .ok (.bipush (-2), 2) := by decide +kernel
theorem dX11_load_31 : decode cX11_load 31 = .ok (.ireturn, 1) := by decide +kernel
theorem dX11_load_32 : decode cX11_load 32 = .ok (.aload_n 0, 1) := by decide +kernel
theorem dX11_load_33 : decode cX11_load 33 = .ok (.getfield 41, 3) := by decide +kernel
theorem dX11_load_36 : decode cX11_load 36 = .ok (.iconst 0, 1) := by decide +kernel
theorem dX11_load_37 : decode cX11_load 37 = .ok (.aload_n 0, 1) := by decide +kernel
theorem dX11_load_38 : decode cX11_load 38 = .ok (.getfield 10, 3) := by decide +kernel
theorem dX11_load_41 : decode cX11_load 41 = .ok (.getfield 56, 3) := by decide +kernel
theorem dX11_load_44 : decode cX11_load 44 = .ok (.iload_n 1, 1) := by decide +kernel
theorem dX11_load_45 : decode cX11_load 45 = .ok (.iload_n 2, 1) := by decide +kernel
theorem dX11_load_46 : decode cX11_load 46 = .ok (.invokestatic 59, 3) := by decide +kernel
theorem dX11_load_49 : decode cX11_load 49 = .ok (.aload_n 0, 1) := by decide +kernel
theorem dX11_load_50 : decode cX11_load 50 = .ok (.getfield 21, 3) := by decide +kernel
theorem dX11_load_53 : decode cX11_load 53 = .ok (.iload_n 1, 1) := by decide +kernel
theorem dX11_load_54 : decode cX11_load 54 = .ok (.iload_n 1, 1) := by decide +kernel
theorem dX11_load_55 : decode cX11_load 55 = .ok (.iload_n 2, 1) := by decide +kernel
theorem dX11_load_56 : decode cX11_load 56 = .ok (.iadd, 1) := by decide +kernel
theorem dX11_load_57 : decode cX11_load 57 = .ok (.invokevirtual 65, 3) := by decide +kernel
theorem dX11_load_60 : decode cX11_load 60 = .ok (.iload_n 2, 1) := by decide +kernel
theorem dX11_load_61 : decode cX11_load 61 = .ok (.ireturn, 1) := by decide +kernel
theorem dX11_border_0 : decode cX11_border 0 = .ok (.iload_n 1, 1) := by decide +kernel
theorem dX11_border_1 : decode cX11_border 1 = .ok (.ifCond .lt 10, 3) := by decide +kernel
theorem dX11_border_4 : decode cX11_border 4 = .ok (.iload_n 1, 1) := by decide +kernel
theorem dX11_border_5 : decode cX11_border 5 = .ok (.sipush 4096, 3) := by decide +kernel
theorem dX11_border_8 : decode cX11_border 8 = .ok (.if_icmp .le 6, 3) := by decide +kernel
theorem dX11_border_11 : decode cX11_border 11 = .ok (.bipush (-2), 2) := by decide +kernel
theorem dX11_border_13 : decode cX11_border 13 = .ok (.ireturn, 1) := by decide +kernel
theorem dX11_border_14 : decode cX11_border 14 = .ok (.aload_n 0, 1) := by decide +kernel
theorem dX11_border_15 : decode cX11_border 15 = .ok (.getfield 10, 3) := by decide +kernel
theorem dX11_border_18 : decode cX11_border 18 = .ok (.getfield 69, 3) := by decide +kernel
theorem dX11_border_21 : decode cX11_border 21 = .ok (.istore_n 2, 1) := by decide +kernel
theorem dX11_border_22 : decode cX11_border 22 = .ok (.aload_n 0, 1) := by decide +kernel
theorem dX11_border_23 : decode cX11_border 23 = .ok (.getfield 10, 3) := by decide +kernel
theorem dX11_border_26 : decode cX11_border 26 = .ok (.iload_n 1, 1) := by decide +kernel
theorem dX11_border_27 : decode cX11_border 27 = .ok (.putfield 69, 3) := by decide +kernel
theorem dX11_border_30 : decode cX11_border 30 = .ok (.aload_n 0, 1) := by decide +kernel
theorem dX11_border_31 : decode cX11_border 31 = .ok (.getfield 21, 3) := by decide +kernel
theorem dX11_border_34 : decode cX11_border 34 = .ok (.invokevirtual 72, 3) := by decide +kernel
theorem dX11_border_37 : decode cX11_border 37 = .ok (.iload_n 2, 1) := by decide +kernel
theorem dX11_border_38 : decode cX11_border 38 = .ok (.ireturn, 1) := by decide +kernel
theorem dX11_byteAt_0 : decode cX11_byteAt 0 = .ok (.aload_n 0, 1) := by decide +kernel
theorem dX11_byteAt_1 : decode cX11_byteAt 1 = .ok (.getfield 10, 3) := by decide +kernel
theorem dX11_byteAt_4 : decode cX11_byteAt 4 = .ok (.iload_n 1, 1) := by decide +kernel
theorem dX11_byteAt_5 : decode cX11_byteAt 5 = .ok (.invokevirtual 75, 3) := by decide +kernel
theorem dX11_byteAt_8 : decode cX11_byteAt 8 = .ok (.ifCond .eq 14, 3) := by decide +kernel
theorem dX11_byteAt_11 : decode cX11_byteAt 11 = .ok (.aload_n 0, 1) := by decide +kernel
theorem dX11_byteAt_12 : decode cX11_byteAt 12 = .ok (.getfield 10, 3) := by decide +kernel
theorem dX11_byteAt_15 : decode cX11_byteAt 15 = .ok (.iload_n 1, 1) := by decide +kernel
theorem dX11_byteAt_16 : decode cX11_byteAt 16 = .ok (.invokevirtual 79, 3) := by decide +kernel
theorem dX11_byteAt_19 : decode cX11_byteAt 19 = .ok (.goto 4, 3) := by decide +kernel
theorem dX11_byteAt_22 : decode cX11_byteAt 22 = .ok (.iconst (-1), 1) := by decide +kernel
theorem dX11_byteAt_23 : decode cX11_byteAt 23 = .ok (.ireturn, 1) := by decide +kernel
theorem dX11_table_0 : decode cX11_table 0 = .ok (.aload_n 0, 1) := by decide +kernel
theorem dX11_table_1 : decode cX11_table 1 = .ok (.getfield 30, 3) := by decide +kernel
theorem dX11_table_4 : decode cX11_table 4 = .ok (.getfield 83, 3) := by decide +kernel
theorem dX11_table_7 : decode cX11_table 7 = .ok (.ifCond .le 6, 3) := by decide +kernel
theorem dX11_table_10 : decode cX11_table 10 = .ok (.bipush (-3), 2) := by decide +kernel
theorem dX11_table_12 : decode cX11_table 12 = .ok (.ireturn, 1) := by decide +kernel
theorem dX11_table_13 : decode cX11_table 13 = .ok (.aload_n 0, 1) := by decide +kernel
theorem dX11_table_14 : decode cX11_table 14 = .ok (.getfield 21, 3) := by decide +kernel
theorem dX11_table_17 : decode cX11_table 17 = .ok (.iload_n 1, 1) := by decide +kernel
theorem dX11_table_18 : decode cX11_table 18 = .ok (.invokevirtual 86, 3) := by decide +kernel
theorem dX11_table_21 : decode cX11_table 21 = .ok (.aload_n 0, 1) := by decide +kernel
theorem dX11_table_22 : decode cX11_table 22 = .ok (.getfield 21, 3) := by decide +kernel
theorem dX11_table_25 : decode cX11_table 25 = .ok (.invokevirtual 90, 3) := by decide +kernel
theorem dX11_table_28 : decode cX11_table 28 = .ok (.ireturn, 1) := by decide +kernel
theorem dX11_system_0 : decode cX11_system 0 = .ok (.iload_n 1, 1) := by decide +kernel
theorem dX11_system_1 : decode cX11_system 1 = .ok (.invokestatic 94, 3) := by decide +kernel
theorem dX11_system_4 : decode cX11_system 4 = .ok (.ifCond .ne 6, 3) := by decide +kernel
theorem dX11_system_7 : decode cX11_system 7 = .ok (.bipush (-2), 2) := by decide +kernel
theorem dX11_system_9 : decode cX11_system 9 = .ok (.ireturn, 1) := by decide +kernel
theorem dX11_system_10 : decode cX11_system 10 = .ok (.aload_n 0, 1) := by decide +kernel
theorem dX11_system_11 : decode cX11_system 11 = .ok (.getfield 30, 3) := by decide +kernel
theorem dX11_system_14 : decode cX11_system 14 = .ok (.getfield 83, 3) := by decide +kernel
theorem dX11_system_17 : decode cX11_system 17 = .ok (.ifCond .le 6, 3) := by decide +kernel
theorem dX11_system_20 : decode cX11_system 20 = .ok (.bipush (-3), 2) := by decide +kernel
theorem dX11_system_22 : decode cX11_system 22 = .ok (.ireturn, 1) := by decide +kernel
theorem dX11_system_23 : decode cX11_system 23 = .ok (.aload_n 0, 1) := by decide +kernel
theorem dX11_system_24 : decode cX11_system 24 = .ok (.getfield 30, 3) := by decide +kernel
theorem dX11_system_27 : decode cX11_system 27 = .ok (.iload_n 1, 1) := by decide +kernel
theorem dX11_system_28 : decode cX11_system 28 = .ok (.iload_n 2, 1) := by decide +kernel
theorem dX11_system_29 : decode cX11_system 29 = .ok (.invokevirtual 97, 3) := by decide +kernel
theorem dX11_system_32 : decode cX11_system 32 = .ok (.iconst 0, 1) := by decide +kernel
theorem dX11_system_33 : decode cX11_system 33 = .ok (.ireturn, 1) := by decide +kernel
theorem dX11_print_0 : decode cX11_print 0 = .ok (.iload_n 2, 1) := by decide +kernel
theorem dX11_print_1 : decode cX11_print 1 = .ok (.invokestatic 100, 3) := by decide +kernel
theorem dX11_print_4 : decode cX11_print 4 = .ok (.ifCond .ne 6, 3) := by decide +kernel
theorem dX11_print_7 : decode cX11_print 7 = .ok (.bipush (-2), 2) := by decide +kernel
theorem dX11_print_9 : decode cX11_print 9 = .ok (.ireturn, 1) := by decide +kernel
theorem dX11_print_10 : decode cX11_print 10 = .ok (.aload_n 0, 1) := by decide +kernel
theorem dX11_print_11 : decode cX11_print 11 = .ok (.getfield 30, 3) := by decide +kernel
theorem dX11_print_14 : decode cX11_print 14 = .ok (.getfield 83, 3) := by decide +kernel
theorem dX11_print_17 : decode cX11_print 17 = .ok (.ifCond .le 6, 3) := by decide +kernel
theorem dX11_print_20 : decode cX11_print 20 = .ok (.bipush (-3), 2) := by decide +kernel
theorem dX11_print_22 : decode cX11_print 22 = .ok (.ireturn, 1) := by decide +kernel
theorem dX11_print_23 : decode cX11_print 23 = .ok (.aload_n 0, 1) := by decide +kernel
theorem dX11_print_24 : decode cX11_print 24 = .ok (.getfield 30, 3) := by decide +kernel
theorem dX11_print_27 : decode cX11_print 27 = .ok (.iload_n 1, 1) := by decide +kernel
theorem dX11_print_28 : decode cX11_print 28 = .ok (.invokevirtual 103, 3) := by decide +kernel
theorem dX11_print_31 : decode cX11_print 31 = .ok (.aload_n 0, 1) := by decide +kernel
theorem dX11_print_32 : decode cX11_print 32 = .ok (.getfield 30, 3) := by decide +kernel
theorem dX11_print_35 : decode cX11_print 35 = .ok (.iload_n 2, 1) := by decide +kernel
theorem dX11_print_36 : decode cX11_print 36 = .ok (.invokevirtual 106, 3) := by decide +kernel
theorem dX11_print_39 : decode cX11_print 39 = .ok (.ireturn, 1) := by decide +kernel
theorem dX11_number_0 : decode cX11_number 0 = .ok (.iload_n 2, 1) := by decide +kernel
theorem dX11_number_1 : decode cX11_number 1 = .ok (.invokestatic 100, 3) := by decide +kernel
theorem dX11_number_4 : decode cX11_number 4 = .ok (.ifCond .ne 6, 3) := by decide +kernel
theorem dX11_number_7 : decode cX11_number 7 = .ok (.bipush (-2), 2) := by decide +kernel
theorem dX11_number_9 : decode cX11_number 9 = .ok (.ireturn, 1) := by decide +kernel
theorem dX11_number_10 : decode cX11_number 10 = .ok (.aload_n 0, 1) := by decide +kernel
theorem dX11_number_11 : decode cX11_number 11 = .ok (.getfield 30, 3) := by decide +kernel
theorem dX11_number_14 : decode cX11_number 14 = .ok (.getfield 83, 3) := by decide +kernel
theorem dX11_number_17 : decode cX11_number 17 = .ok (.ifCond .le 6, 3) := by decide +kernel
theorem dX11_number_20 : decode cX11_number 20 = .ok (.bipush (-3), 2) := by decide +kernel
theorem dX11_number_22 : decode cX11_number 22 = .ok (.ireturn, 1) := by decide +kernel
theorem dX11_number_23 : decode cX11_number 23 = .ok (.aload_n 0, 1) := by decide +kernel
theorem dX11_number_24 : decode cX11_number 24 = .ok (.getfield 30, 3) := by decide +kernel
theorem dX11_number_27 : decode cX11_number 27 = .ok (.iconst 4, 1) := by decide +kernel
theorem dX11_number_28 : decode cX11_number 28 = .ok (.iload_n 1, 1) := by decide +kernel
theorem dX11_number_29 : decode cX11_number 29 = .ok (.invokevirtual 111, 3) := by decide +kernel
theorem dX11_number_32 : decode cX11_number 32 = .ok (.aload_n 0, 1) := by decide +kernel
theorem dX11_number_33 : decode cX11_number 33 = .ok (.getfield 30, 3) := by decide +kernel
theorem dX11_number_36 : decode cX11_number 36 = .ok (.iload_n 2, 1) := by decide +kernel
theorem dX11_number_37 : decode cX11_number 37 = .ok (.invokevirtual 106, 3) := by decide +kernel
theorem dX11_number_40 : decode cX11_number 40 = .ok (.ireturn, 1) := by decide +kernel
theorem dX11_call_0 : decode cX11_call 0 = .ok (.iload_n 2, 1) := by decide +kernel
theorem dX11_call_1 : decode cX11_call 1 = .ok (.invokestatic 100, 3) := by decide +kernel
theorem dX11_call_4 : decode cX11_call 4 = .ok (.ifCond .eq 11, 3) := by decide +kernel
theorem dX11_call_7 : decode cX11_call 7 = .ok (.aload_n 0, 1) := by decide +kernel
theorem dX11_call_8 : decode cX11_call 8 = .ok (.getfield 53, 3) := by decide +kernel
theorem dX11_call_11 : decode cX11_call 11 = .ok (.iconst 4, 1) := by decide +kernel
theorem dX11_call_12 : decode cX11_call 12 = .ok (.if_icmp .le 6, 3) := by decide +kernel
theorem dX11_call_15 : decode cX11_call 15 = .ok (.bipush (-2), 2) := by decide +kernel
theorem dX11_call_17 : decode cX11_call 17 = .ok (.ireturn, 1) := by decide +kernel
theorem dX11_call_18 : decode cX11_call 18 = .ok (.aload_n 0, 1) := by decide +kernel
theorem dX11_call_19 : decode cX11_call 19 = .ok (.getfield 30, 3) := by decide +kernel
theorem dX11_call_22 : decode cX11_call 22 = .ok (.getfield 83, 3) := by decide +kernel
theorem dX11_call_25 : decode cX11_call 25 = .ok (.ifCond .le 6, 3) := by decide +kernel
theorem dX11_call_28 : decode cX11_call 28 = .ok (.bipush (-3), 2) := by decide +kernel
theorem dX11_call_30 : decode cX11_call 30 = .ok (.ireturn, 1) := by decide +kernel
theorem dX11_call_31 : decode cX11_call 31 = .ok (.aload_n 0, 1) := by decide +kernel
theorem dX11_call_32 : decode cX11_call 32 = .ok (.getfield 30, 3) := by decide +kernel
theorem dX11_call_35 : decode cX11_call 35 = .ok (.aload_n 0, 1) := by decide +kernel
theorem dX11_call_36 : decode cX11_call 36 = .ok (.getfield 45, 3) := by decide +kernel
theorem dX11_call_39 : decode cX11_call 39 = .ok (.aload_n 0, 1) := by decide +kernel
theorem dX11_call_40 : decode cX11_call 40 = .ok (.getfield 53, 3) := by decide +kernel
theorem dX11_call_43 : decode cX11_call 43 = .ok (.invokevirtual 114, 3) := by decide +kernel
theorem dX11_call_46 : decode cX11_call 46 = .ok (.aload_n 0, 1) := by decide +kernel
theorem dX11_call_47 : decode cX11_call 47 = .ok (.iconst 0, 1) := by decide +kernel
theorem dX11_call_48 : decode cX11_call 48 = .ok (.putfield 53, 3) := by decide +kernel
theorem dX11_call_51 : decode cX11_call 51 = .ok (.aload_n 0, 1) := by decide +kernel
theorem dX11_call_52 : decode cX11_call 52 = .ok (.getfield 30, 3) := by decide +kernel
theorem dX11_call_55 : decode cX11_call 55 = .ok (.iload_n 1, 1) := by decide +kernel
theorem dX11_call_56 : decode cX11_call 56 = .ok (.sipush 255, 3) := by decide +kernel
theorem dX11_call_59 : decode cX11_call 59 = .ok (.invokevirtual 118, 3) := by decide +kernel
theorem dX11_call_62 : decode cX11_call 62 = .ok (.aload_n 0, 1) := by decide +kernel
theorem dX11_call_63 : decode cX11_call 63 = .ok (.getfield 30, 3) := by decide +kernel
theorem dX11_call_66 : decode cX11_call 66 = .ok (.iload_n 2, 1) := by decide +kernel
theorem dX11_call_67 : decode cX11_call 67 = .ok (.invokevirtual 106, 3) := by decide +kernel
theorem dX11_call_70 : decode cX11_call 70 = .ok (.ireturn, 1) := by decide +kernel
theorem dX11_resume_0 : decode cX11_resume 0 = .ok (.iload_n 1, 1) := by decide +kernel
theorem dX11_resume_1 : decode cX11_resume 1 = .ok (.invokestatic 100, 3) := by decide +kernel
theorem dX11_resume_4 : decode cX11_resume 4 = .ok (.ifCond .ne 6, 3) := by decide +kernel
theorem dX11_resume_7 : decode cX11_resume 7 = .ok (.bipush (-2), 2) := by decide +kernel
theorem dX11_resume_9 : decode cX11_resume 9 = .ok (.ireturn, 1) := by decide +kernel
theorem dX11_resume_10 : decode cX11_resume 10 = .ok (.aload_n 0, 1) := by decide +kernel
theorem dX11_resume_11 : decode cX11_resume 11 = .ok (.getfield 30, 3) := by decide +kernel
theorem dX11_resume_14 : decode cX11_resume 14 = .ok (.getfield 83, 3) := by decide +kernel
theorem dX11_resume_17 : decode cX11_resume 17 = .ok (.ifCond .ne 6, 3) := by decide +kernel
theorem dX11_resume_20 : decode cX11_resume 20 = .ok (.bipush (-3), 2) := by decide +kernel
theorem dX11_resume_22 : decode cX11_resume 22 = .ok (.ireturn, 1) := by decide +kernel
theorem dX11_resume_23 : decode cX11_resume 23 = .ok (.aload_n 0, 1) := by decide +kernel
theorem dX11_resume_24 : decode cX11_resume 24 = .ok (.getfield 30, 3) := by decide +kernel
theorem dX11_resume_27 : decode cX11_resume 27 = .ok (.iload_n 1, 1) := by decide +kernel
theorem dX11_resume_28 : decode cX11_resume 28 = .ok (.invokevirtual 106, 3) := by decide +kernel
theorem dX11_resume_31 : decode cX11_resume 31 = .ok (.ireturn, 1) := by decide +kernel
theorem dX11_stop_0 : decode cX11_stop 0 = .ok (.aload_n 0, 1) := by decide +kernel
theorem dX11_stop_1 : decode cX11_stop 1 = .ok (.getfield 30, 3) := by decide +kernel
theorem dX11_stop_4 : decode cX11_stop 4 = .ok (.getfield 83, 3) := by decide +kernel
theorem dX11_stop_7 : decode cX11_stop 7 = .ok (.istore_n 1, 1) := by decide +kernel
theorem dX11_stop_8 : decode cX11_stop 8 = .ok (.aload_n 0, 1) := by decide +kernel
theorem dX11_stop_9 : decode cX11_stop 9 = .ok (.getfield 30, 3) := by decide +kernel
theorem dX11_stop_12 : decode cX11_stop 12 = .ok (.iconst 0, 1) := by decide +kernel
theorem dX11_stop_13 : decode cX11_stop 13 = .ok (.putfield 83, 3) := by decide +kernel
theorem dX11_stop_16 : decode cX11_stop 16 = .ok (.iload_n 1, 1) := by decide +kernel
theorem dX11_stop_17 : decode cX11_stop 17 = .ok (.ireturn, 1) := by decide +kernel
theorem dX11_jobs_0 : decode cX11_jobs 0 = .ok (.aload_n 0, 1) := by decide +kernel
theorem dX11_jobs_1 : decode cX11_jobs 1 = .ok (.getfield 30, 3) := by decide +kernel
theorem dX11_jobs_4 : decode cX11_jobs 4 = .ok (.getfield 83, 3) := by decide +kernel
theorem dX11_jobs_7 : decode cX11_jobs 7 = .ok (.ireturn, 1) := by decide +kernel
theorem dX11_job_0 : decode cX11_job 0 = .ok (.iload_n 1, 1) := by decide +kernel
theorem dX11_job_1 : decode cX11_job 1 = .ok (.ifCond .lt 14, 3) := by decide +kernel
theorem dX11_job_4 : decode cX11_job 4 = .ok (.iload_n 1, 1) := by decide +kernel
theorem dX11_job_5 : decode cX11_job 5 = .ok (.aload_n 0, 1) := by decide +kernel
theorem dX11_job_6 : decode cX11_job 6 = .ok (.getfield 30, 3) := by decide +kernel
theorem dX11_job_9 : decode cX11_job 9 = .ok (.getfield 83, 3) := by decide +kernel
theorem dX11_job_12 : decode cX11_job 12 = .ok (.if_icmp .lt 5, 3) := by decide +kernel
theorem dX11_job_15 : decode cX11_job 15 = .ok (.iconst 0, 1) := by decide +kernel
theorem dX11_job_16 : decode cX11_job 16 = .ok (.ireturn, 1) := by decide +kernel
theorem dX11_job_17 : decode cX11_job 17 = .ok (.aload_n 0, 1) := by decide +kernel
theorem dX11_job_18 : decode cX11_job 18 = .ok (.getfield 30, 3) := by decide +kernel
theorem dX11_job_21 : decode cX11_job 21 = .ok (.getfield 121, 3) := by decide +kernel
theorem dX11_job_24 : decode cX11_job 24 = .ok (.iload_n 1, 1) := by decide +kernel
theorem dX11_job_25 : decode cX11_job 25 = .ok (.aaload, 1) := by decide +kernel
theorem dX11_job_26 : decode cX11_job 26 = .ok (.iload_n 2, 1) := by decide +kernel
theorem dX11_job_27 : decode cX11_job 27 = .ok (.invokevirtual 125, 3) := by decide +kernel
theorem dX11_job_30 : decode cX11_job 30 = .ok (.ireturn, 1) := by decide +kernel
theorem dX11_at_0 : decode cX11_at 0 = .ok (.iload_n 1, 1) := by decide +kernel
theorem dX11_at_1 : decode cX11_at 1 = .ok (.ifCond .lt 26, 3) := by decide +kernel
theorem dX11_at_4 : decode cX11_at 4 = .ok (.iload_n 1, 1) := by decide +kernel
theorem dX11_at_5 : decode cX11_at 5 = .ok (.aload_n 0, 1) := by decide +kernel
theorem dX11_at_6 : decode cX11_at 6 = .ok (.getfield 30, 3) := by decide +kernel
theorem dX11_at_9 : decode cX11_at 9 = .ok (.getfield 127, 3) := by decide +kernel
theorem dX11_at_12 : decode cX11_at 12 = .ok (.if_icmp .ge 15, 3) := by decide +kernel
theorem dX11_at_15 : decode cX11_at 15 = .ok (.aload_n 0, 1) := by decide +kernel
theorem dX11_at_16 : decode cX11_at 16 = .ok (.getfield 30, 3) := by decide +kernel
theorem dX11_at_19 : decode cX11_at 19 = .ok (.getfield 130, 3) := by decide +kernel
theorem dX11_at_22 : decode cX11_at 22 = .ok (.iload_n 1, 1) := by decide +kernel
theorem dX11_at_23 : decode cX11_at 23 = .ok (.iaload, 1) := by decide +kernel
theorem dX11_at_24 : decode cX11_at 24 = .ok (.goto 4, 3) := by decide +kernel
theorem dX11_at_27 : decode cX11_at 27 = .ok (.iconst (-1), 1) := by decide +kernel
theorem dX11_at_28 : decode cX11_at 28 = .ok (.ireturn, 1) := by decide +kernel
theorem dX11_clear_0 : decode cX11_clear 0 = .ok (.aload_n 0, 1) := by decide +kernel
theorem dX11_clear_1 : decode cX11_clear 1 = .ok (.getfield 30, 3) := by decide +kernel
theorem dX11_clear_4 : decode cX11_clear 4 = .ok (.getfield 127, 3) := by decide +kernel
theorem dX11_clear_7 : decode cX11_clear 7 = .ok (.istore_n 1, 1) := by decide +kernel
theorem dX11_clear_8 : decode cX11_clear 8 = .ok (.aload_n 0, 1) := by decide +kernel
theorem dX11_clear_9 : decode cX11_clear 9 = .ok (.getfield 30, 3) := by decide +kernel
theorem dX11_clear_12 : decode cX11_clear 12 = .ok (.iconst 0, 1) := by decide +kernel
theorem dX11_clear_13 : decode cX11_clear 13 = .ok (.putfield 127, 3) := by decide +kernel
theorem dX11_clear_16 : decode cX11_clear 16 = .ok (.iload_n 1, 1) := by decide +kernel
theorem dX11_clear_17 : decode cX11_clear 17 = .ok (.ireturn, 1) := by decide +kernel
theorem dX11_told_0 : decode cX11_told 0 = .ok (.iload_n 1, 1) := by decide +kernel
theorem dX11_told_1 : decode cX11_told 1 = .ok (.tableswitch 135 8 17 #[55, 63, 71, 79, 87, 95, 100, 105, 113, 124], 55) := by decide +kernel
theorem dX11_told_56 : decode cX11_told 56 = .ok (.aload_n 0, 1) := by decide +kernel
theorem dX11_told_57 : decode cX11_told 57 = .ok (.getfield 30, 3) := by decide +kernel
theorem dX11_told_60 : decode cX11_told 60 = .ok (.getfield 133, 3) := by decide +kernel
theorem dX11_told_63 : decode cX11_told 63 = .ok (.ireturn, 1) := by decide +kernel
theorem dX11_told_64 : decode cX11_told 64 = .ok (.aload_n 0, 1) := by decide +kernel
theorem dX11_told_65 : decode cX11_told 65 = .ok (.getfield 30, 3) := by decide +kernel
theorem dX11_told_68 : decode cX11_told 68 = .ok (.getfield 136, 3) := by decide +kernel
theorem dX11_told_71 : decode cX11_told 71 = .ok (.ireturn, 1) := by decide +kernel
theorem dX11_told_72 : decode cX11_told 72 = .ok (.aload_n 0, 1) := by decide +kernel
theorem dX11_told_73 : decode cX11_told 73 = .ok (.getfield 21, 3) := by decide +kernel
theorem dX11_told_76 : decode cX11_told 76 = .ok (.getfield 139, 3) := by decide +kernel
theorem dX11_told_79 : decode cX11_told 79 = .ok (.ireturn, 1) := by decide +kernel
theorem dX11_told_80 : decode cX11_told 80 = .ok (.aload_n 0, 1) := by decide +kernel
theorem dX11_told_81 : decode cX11_told 81 = .ok (.getfield 10, 3) := by decide +kernel
theorem dX11_told_84 : decode cX11_told 84 = .ok (.getfield 69, 3) := by decide +kernel
theorem dX11_told_87 : decode cX11_told 87 = .ok (.ireturn, 1) := by decide +kernel
theorem dX11_told_88 : decode cX11_told 88 = .ok (.aload_n 0, 1) := by decide +kernel
theorem dX11_told_89 : decode cX11_told 89 = .ok (.getfield 30, 3) := by decide +kernel
theorem dX11_told_92 : decode cX11_told 92 = .ok (.getfield 127, 3) := by decide +kernel
theorem dX11_told_95 : decode cX11_told 95 = .ok (.ireturn, 1) := by decide +kernel
theorem dX11_told_96 : decode cX11_told 96 = .ok (.aload_n 0, 1) := by decide +kernel
theorem dX11_told_97 : decode cX11_told 97 = .ok (.getfield 49, 3) := by decide +kernel
theorem dX11_told_100 : decode cX11_told 100 = .ok (.ireturn, 1) := by decide +kernel
theorem dX11_told_101 : decode cX11_told 101 = .ok (.aload_n 0, 1) := by decide +kernel
theorem dX11_told_102 : decode cX11_told 102 = .ok (.getfield 53, 3) := by decide +kernel
theorem dX11_told_105 : decode cX11_told 105 = .ok (.ireturn, 1) := by decide +kernel
theorem dX11_told_106 : decode cX11_told 106 = .ok (.aload_n 0, 1) := by decide +kernel
theorem dX11_told_107 : decode cX11_told 107 = .ok (.getfield 21, 3) := by decide +kernel
theorem dX11_told_110 : decode cX11_told 110 = .ok (.invokevirtual 90, 3) := by decide +kernel
theorem dX11_told_113 : decode cX11_told 113 = .ok (.ireturn, 1) := by decide +kernel
theorem dX11_told_114 : decode cX11_told 114 = .ok (.aload_n 0, 1) := by decide +kernel
theorem dX11_told_115 : decode cX11_told 115 = .ok (.getfield 37, 3) := by decide +kernel
theorem dX11_told_118 : decode cX11_told 118 = .ok (.getfield 142, 3) := by decide +kernel
theorem dX11_told_121 : decode cX11_told 121 = .ok (.getfield 146, 3) := by decide +kernel
theorem dX11_told_124 : decode cX11_told 124 = .ok (.ireturn, 1) := by decide +kernel
theorem dX11_told_125 : decode cX11_told 125 = .ok (.aload_n 0, 1) := by decide +kernel
theorem dX11_told_126 : decode cX11_told 126 = .ok (.getfield 37, 3) := by decide +kernel
theorem dX11_told_129 : decode cX11_told 129 = .ok (.getfield 151, 3) := by decide +kernel
theorem dX11_told_132 : decode cX11_told 132 = .ok (.getfield 155, 3) := by decide +kernel
theorem dX11_told_135 : decode cX11_told 135 = .ok (.ireturn, 1) := by decide +kernel
theorem dX11_told_136 : decode cX11_told 136 = .ok (.aload_n 0, 1) := by decide +kernel
theorem dX11_told_137 : decode cX11_told 137 = .ok (.getfield 30, 3) := by decide +kernel
theorem dX11_told_140 : decode cX11_told 140 = .ok (.getfield 158, 3) := by decide +kernel
theorem dX11_told_143 : decode cX11_told 143 = .ok (.iload_n 1, 1) := by decide +kernel
theorem dX11_told_144 : decode cX11_told 144 = .ok (.invokevirtual 162, 3) := by decide +kernel
theorem dX11_told_147 : decode cX11_told 147 = .ok (.ireturn, 1) := by decide +kernel
theorem dX11_sign_0 : decode cX11_sign 0 = .ok (.aload_n 0, 1) := by decide +kernel
theorem dX11_sign_1 : decode cX11_sign 1 = .ok (.getfield 53, 3) := by decide +kernel
theorem dX11_sign_4 : decode cX11_sign 4 = .ok (.bipush 120, 2) := by decide +kernel
theorem dX11_sign_6 : decode cX11_sign 6 = .ok (.if_icmp .lt 6, 3) := by decide +kernel
theorem dX11_sign_9 : decode cX11_sign 9 = .ok (.bipush (-4), 2) := by decide +kernel
theorem dX11_sign_11 : decode cX11_sign 11 = .ok (.ireturn, 1) := by decide +kernel
theorem dX11_sign_12 : decode cX11_sign 12 = .ok (.aload_n 0, 1) := by decide +kernel
theorem dX11_sign_13 : decode cX11_sign 13 = .ok (.getfield 45, 3) := by decide +kernel
theorem dX11_sign_16 : decode cX11_sign 16 = .ok (.aload_n 0, 1) := by decide +kernel
theorem dX11_sign_17 : decode cX11_sign 17 = .ok (.getfield 53, 3) := by decide +kernel
theorem dX11_sign_20 : decode cX11_sign 20 = .ok (.iload_n 1, 1) := by decide +kernel
theorem dX11_sign_21 : decode cX11_sign 21 = .ok (.iastore, 1) := by decide +kernel
theorem dX11_sign_22 : decode cX11_sign 22 = .ok (.aload_n 0, 1) := by decide +kernel
theorem dX11_sign_23 : decode cX11_sign 23 = .ok (.dup, 1) := by decide +kernel
theorem dX11_sign_24 : decode cX11_sign 24 = .ok (.getfield 53, 3) := by decide +kernel
theorem dX11_sign_27 : decode cX11_sign 27 = .ok (.iconst 1, 1) := by decide +kernel
theorem dX11_sign_28 : decode cX11_sign 28 = .ok (.iadd, 1) := by decide +kernel
theorem dX11_sign_29 : decode cX11_sign 29 = .ok (.putfield 53, 3) := by decide +kernel
theorem dX11_sign_32 : decode cX11_sign 32 = .ok (.aload_n 0, 1) := by decide +kernel
theorem dX11_sign_33 : decode cX11_sign 33 = .ok (.getfield 53, 3) := by decide +kernel
theorem dX11_sign_36 : decode cX11_sign 36 = .ok (.ireturn, 1) := by decide +kernel
theorem dX11_piece_0 : decode cX11_piece 0 = .ok (.aload_n 0, 1) := by decide +kernel
theorem dX11_piece_1 : decode cX11_piece 1 = .ok (.getfield 53, 3) := by decide +kernel
theorem dX11_piece_4 : decode cX11_piece 4 = .ok (.istore_n 2, 1) := by decide +kernel
theorem dX11_piece_5 : decode cX11_piece 5 = .ok (.aload_n 0, 1) := by decide +kernel
theorem dX11_piece_6 : decode cX11_piece 6 = .ok (.iconst 0, 1) := by decide +kernel
theorem dX11_piece_7 : decode cX11_piece 7 = .ok (.putfield 53, 3) := by decide +kernel
theorem dX11_piece_10 : decode cX11_piece 10 = .ok (.iload_n 1, 1) := by decide +kernel
theorem dX11_piece_11 : decode cX11_piece 11 = .ok (.aload_n 0, 1) := by decide +kernel
theorem dX11_piece_12 : decode cX11_piece 12 = .ok (.getfield 45, 3) := by decide +kernel
theorem dX11_piece_15 : decode cX11_piece 15 = .ok (.iload_n 2, 1) := by decide +kernel
theorem dX11_piece_16 : decode cX11_piece 16 = .ok (.invokestatic 165, 3) := by decide +kernel
theorem dX11_piece_19 : decode cX11_piece 19 = .ok (.ifCond .ne 6, 3) := by decide +kernel
theorem dX11_piece_22 : decode cX11_piece 22 = .ok (.bipush (-2), 2) := by decide +kernel
theorem dX11_piece_24 : decode cX11_piece 24 = .ok (.ireturn, 1) := by decide +kernel
theorem dX11_piece_25 : decode cX11_piece 25 = .ok (.aload_n 0, 1) := by decide +kernel
theorem dX11_piece_26 : decode cX11_piece 26 = .ok (.getfield 37, 3) := by decide +kernel
theorem dX11_piece_29 : decode cX11_piece 29 = .ok (.getfield 142, 3) := by decide +kernel
theorem dX11_piece_32 : decode cX11_piece 32 = .ok (.iload_n 1, 1) := by decide +kernel
theorem dX11_piece_33 : decode cX11_piece 33 = .ok (.aload_n 0, 1) := by decide +kernel
theorem dX11_piece_34 : decode cX11_piece 34 = .ok (.getfield 45, 3) := by decide +kernel
theorem dX11_piece_37 : decode cX11_piece 37 = .ok (.iload_n 2, 1) := by decide +kernel
theorem dX11_piece_38 : decode cX11_piece 38 = .ok (.invokevirtual 169, 3) := by decide +kernel
theorem dX11_piece_41 : decode cX11_piece 41 = .ok (.ireturn, 1) := by decide +kernel
theorem dX11_text_0 : decode cX11_text 0 = .ok (.aload_n 0, 1) := by decide +kernel
theorem dX11_text_1 : decode cX11_text 1 = .ok (.getfield 53, 3) := by decide +kernel
theorem dX11_text_4 : decode cX11_text 4 = .ok (.istore_n 1, 1) := by decide +kernel
theorem dX11_text_5 : decode cX11_text 5 = .ok (.aload_n 0, 1) := by decide +kernel
theorem dX11_text_6 : decode cX11_text 6 = .ok (.iconst 0, 1) := by decide +kernel
theorem dX11_text_7 : decode cX11_text 7 = .ok (.putfield 53, 3) := by decide +kernel
theorem dX11_text_10 : decode cX11_text 10 = .ok (.aload_n 0, 1) := by decide +kernel
theorem dX11_text_11 : decode cX11_text 11 = .ok (.getfield 37, 3) := by decide +kernel
theorem dX11_text_14 : decode cX11_text 14 = .ok (.getfield 173, 3) := by decide +kernel
theorem dX11_text_17 : decode cX11_text 17 = .ok (.aload_n 0, 1) := by decide +kernel
theorem dX11_text_18 : decode cX11_text 18 = .ok (.getfield 45, 3) := by decide +kernel
theorem dX11_text_21 : decode cX11_text 21 = .ok (.iload_n 1, 1) := by decide +kernel
theorem dX11_text_22 : decode cX11_text 22 = .ok (.invokevirtual 177, 3) := by decide +kernel
theorem dX11_text_25 : decode cX11_text 25 = .ok (.iconst (-1), 1) := by decide +kernel
theorem dX11_text_26 : decode cX11_text 26 = .ok (.if_icmp .ne 6, 3) := by decide +kernel
theorem dX11_text_29 : decode cX11_text 29 = .ok (.bipush (-3), 2) := by decide +kernel
theorem dX11_text_31 : decode cX11_text 31 = .ok (.ireturn, 1) := by decide +kernel
theorem dX11_text_32 : decode cX11_text 32 = .ok (.aload_n 0, 1) := by decide +kernel
theorem dX11_text_33 : decode cX11_text 33 = .ok (.getfield 37, 3) := by decide +kernel
theorem dX11_text_36 : decode cX11_text 36 = .ok (.getfield 151, 3) := by decide +kernel
theorem dX11_text_39 : decode cX11_text 39 = .ok (.aload_n 0, 1) := by decide +kernel
theorem dX11_text_40 : decode cX11_text 40 = .ok (.getfield 45, 3) := by decide +kernel
theorem dX11_text_43 : decode cX11_text 43 = .ok (.iload_n 1, 1) := by decide +kernel
theorem dX11_text_44 : decode cX11_text 44 = .ok (.invokevirtual 183, 3) := by decide +kernel
theorem dX11_text_47 : decode cX11_text 47 = .ok (.ireturn, 1) := by decide +kernel
theorem dX11_tree_0 : decode cX11_tree 0 = .ok (.iload_n 1, 1) := by decide +kernel
theorem dX11_tree_1 : decode cX11_tree 1 = .ok (.ifCond .ge 6, 3) := by decide +kernel
theorem dX11_tree_4 : decode cX11_tree 4 = .ok (.bipush (-2), 2) := by decide +kernel
theorem dX11_tree_6 : decode cX11_tree 6 = .ok (.ireturn, 1) := by decide +kernel
theorem dX11_tree_7 : decode cX11_tree 7 = .ok (.aload_n 0, 1) := by decide +kernel
theorem dX11_tree_8 : decode cX11_tree 8 = .ok (.getfield 37, 3) := by decide +kernel
theorem dX11_tree_11 : decode cX11_tree 11 = .ok (.getfield 151, 3) := by decide +kernel
theorem dX11_tree_14 : decode cX11_tree 14 = .ok (.getfield 155, 3) := by decide +kernel
theorem dX11_tree_17 : decode cX11_tree 17 = .ok (.ifCond .ne 6, 3) := by decide +kernel
theorem dX11_tree_20 : decode cX11_tree 20 = .ok (.bipush (-3), 2) := by decide +kernel
theorem dX11_tree_22 : decode cX11_tree 22 = .ok (.ireturn, 1) := by decide +kernel
theorem dX11_tree_23 : decode cX11_tree 23 = .ok (.aload_n 0, 1) := by decide +kernel
theorem dX11_tree_24 : decode cX11_tree 24 = .ok (.getfield 37, 3) := by decide +kernel
theorem dX11_tree_27 : decode cX11_tree 27 = .ok (.iload_n 1, 1) := by decide +kernel
theorem dX11_tree_28 : decode cX11_tree 28 = .ok (.invokevirtual 185, 3) := by decide +kernel
theorem dX11_tree_31 : decode cX11_tree 31 = .ok (.ireturn, 1) := by decide +kernel
theorem dX11_laid_0 : decode cX11_laid 0 = .ok (.iload_n 1, 1) := by decide +kernel
theorem dX11_laid_1 : decode cX11_laid 1 = .ok (.ifCond .lt 17, 3) := by decide +kernel
theorem dX11_laid_4 : decode cX11_laid 4 = .ok (.iload_n 1, 1) := by decide +kernel
theorem dX11_laid_5 : decode cX11_laid 5 = .ok (.aload_n 0, 1) := by decide +kernel
theorem dX11_laid_6 : decode cX11_laid 6 = .ok (.getfield 37, 3) := by decide +kernel
theorem dX11_laid_9 : decode cX11_laid 9 = .ok (.getfield 151, 3) := by decide +kernel
theorem dX11_laid_12 : decode cX11_laid 12 = .ok (.getfield 155, 3) := by decide +kernel
theorem dX11_laid_15 : decode cX11_laid 15 = .ok (.if_icmp .lt 6, 3) := by decide +kernel
theorem dX11_laid_18 : decode cX11_laid 18 = .ok (.bipush (-2), 2) := by decide +kernel
theorem dX11_laid_20 : decode cX11_laid 20 = .ok (.ireturn, 1) := by decide +kernel
theorem dX11_laid_21 : decode cX11_laid 21 = .ok (.iload_n 2, 1) := by decide +kernel
theorem dX11_laid_22 : decode cX11_laid 22 = .ok (.tableswitch 87 0 2 #[26, 39, 52], 26) := by decide +kernel
theorem dX11_laid_48 : decode cX11_laid 48 = .ok (.aload_n 0, 1) := by decide +kernel
theorem dX11_laid_49 : decode cX11_laid 49 = .ok (.getfield 37, 3) := by decide +kernel
theorem dX11_laid_52 : decode cX11_laid 52 = .ok (.getfield 151, 3) := by decide +kernel
theorem dX11_laid_55 : decode cX11_laid 55 = .ok (.getfield 188, 3) := by decide +kernel
theorem dX11_laid_58 : decode cX11_laid 58 = .ok (.iload_n 1, 1) := by decide +kernel
theorem dX11_laid_59 : decode cX11_laid 59 = .ok (.iaload, 1) := by decide +kernel
theorem dX11_laid_60 : decode cX11_laid 60 = .ok (.ireturn, 1) := by decide +kernel
theorem dX11_laid_61 : decode cX11_laid 61 = .ok (.aload_n 0, 1) := by decide +kernel
theorem dX11_laid_62 : decode cX11_laid 62 = .ok (.getfield 37, 3) := by decide +kernel
theorem dX11_laid_65 : decode cX11_laid 65 = .ok (.getfield 151, 3) := by decide +kernel
theorem dX11_laid_68 : decode cX11_laid 68 = .ok (.getfield 191, 3) := by decide +kernel
theorem dX11_laid_71 : decode cX11_laid 71 = .ok (.iload_n 1, 1) := by decide +kernel
theorem dX11_laid_72 : decode cX11_laid 72 = .ok (.iaload, 1) := by decide +kernel
theorem dX11_laid_73 : decode cX11_laid 73 = .ok (.ireturn, 1) := by decide +kernel
theorem dX11_laid_74 : decode cX11_laid 74 = .ok (.aload_n 0, 1) := by decide +kernel
theorem dX11_laid_75 : decode cX11_laid 75 = .ok (.getfield 37, 3) := by decide +kernel
theorem dX11_laid_78 : decode cX11_laid 78 = .ok (.getfield 173, 3) := by decide +kernel
theorem dX11_laid_81 : decode cX11_laid 81 = .ok (.aload_n 0, 1) := by decide +kernel
theorem dX11_laid_82 : decode cX11_laid 82 = .ok (.getfield 37, 3) := by decide +kernel
theorem dX11_laid_85 : decode cX11_laid 85 = .ok (.getfield 151, 3) := by decide +kernel
theorem dX11_laid_88 : decode cX11_laid 88 = .ok (.getfield 194, 3) := by decide +kernel
theorem dX11_laid_91 : decode cX11_laid 91 = .ok (.iload_n 1, 1) := by decide +kernel
theorem dX11_laid_92 : decode cX11_laid 92 = .ok (.aaload, 1) := by decide +kernel
theorem dX11_laid_93 : decode cX11_laid 93 = .ok (.aload_n 0, 1) := by decide +kernel
theorem dX11_laid_94 : decode cX11_laid 94 = .ok (.getfield 37, 3) := by decide +kernel
theorem dX11_laid_97 : decode cX11_laid 97 = .ok (.getfield 151, 3) := by decide +kernel
theorem dX11_laid_100 : decode cX11_laid 100 = .ok (.getfield 198, 3) := by decide +kernel
theorem dX11_laid_103 : decode cX11_laid 103 = .ok (.iload_n 1, 1) := by decide +kernel
theorem dX11_laid_104 : decode cX11_laid 104 = .ok (.iaload, 1) := by decide +kernel
theorem dX11_laid_105 : decode cX11_laid 105 = .ok (.invokevirtual 177, 3) := by decide +kernel
theorem dX11_laid_108 : decode cX11_laid 108 = .ok (.ireturn, 1) := by decide +kernel
theorem dX11_laid_109 : decode cX11_laid 109 = .ok (.bipush (-2), 2) := by decide +kernel
theorem dX11_laid_111 : decode cX11_laid 111 = .ok (.ireturn, 1) := by decide +kernel
theorem dX11_bits_0 : decode cX11_bits 0 = .ok (.iload_n 1, 1) := by decide +kernel
theorem dX11_bits_1 : decode cX11_bits 1 = .ok (.iconst (-1), 1) := by decide +kernel
theorem dX11_bits_2 : decode cX11_bits 2 = .ok (.if_icmp .ne 11, 3) := by decide +kernel
theorem dX11_bits_5 : decode cX11_bits 5 = .ok (.aload_n 0, 1) := by decide +kernel
theorem dX11_bits_6 : decode cX11_bits 6 = .ok (.getfield 37, 3) := by decide +kernel
theorem dX11_bits_9 : decode cX11_bits 9 = .ok (.getfield 201, 3) := by decide +kernel
theorem dX11_bits_12 : decode cX11_bits 12 = .ok (.ireturn, 1) := by decide +kernel
theorem dX11_bits_13 : decode cX11_bits 13 = .ok (.iload_n 1, 1) := by decide +kernel
theorem dX11_bits_14 : decode cX11_bits 14 = .ok (.ifCond .lt 17, 3) := by decide +kernel
theorem dX11_bits_17 : decode cX11_bits 17 = .ok (.iload_n 1, 1) := by decide +kernel
theorem dX11_bits_18 : decode cX11_bits 18 = .ok (.aload_n 0, 1) := by decide +kernel
theorem dX11_bits_19 : decode cX11_bits 19 = .ok (.getfield 37, 3) := by decide +kernel
theorem dX11_bits_22 : decode cX11_bits 22 = .ok (.getfield 142, 3) := by decide +kernel
theorem dX11_bits_25 : decode cX11_bits 25 = .ok (.getfield 146, 3) := by decide +kernel
theorem dX11_bits_28 : decode cX11_bits 28 = .ok (.if_icmp .lt 6, 3) := by decide +kernel
theorem dX11_bits_31 : decode cX11_bits 31 = .ok (.bipush (-2), 2) := by decide +kernel
theorem dX11_bits_33 : decode cX11_bits 33 = .ok (.ireturn, 1) := by decide +kernel
theorem dX11_bits_34 : decode cX11_bits 34 = .ok (.aload_n 0, 1) := by decide +kernel
theorem dX11_bits_35 : decode cX11_bits 35 = .ok (.getfield 37, 3) := by decide +kernel
theorem dX11_bits_38 : decode cX11_bits 38 = .ok (.getfield 142, 3) := by decide +kernel
theorem dX11_bits_41 : decode cX11_bits 41 = .ok (.getfield 204, 3) := by decide +kernel
theorem dX11_bits_44 : decode cX11_bits 44 = .ok (.iload_n 1, 1) := by decide +kernel
theorem dX11_bits_45 : decode cX11_bits 45 = .ok (.iaload, 1) := by decide +kernel
theorem dX11_bits_46 : decode cX11_bits 46 = .ok (.ireturn, 1) := by decide +kernel
theorem dX11_forget_0 : decode cX11_forget 0 = .ok (.aload_n 0, 1) := by decide +kernel
theorem dX11_forget_1 : decode cX11_forget 1 = .ok (.getfield 37, 3) := by decide +kernel
theorem dX11_forget_4 : decode cX11_forget 4 = .ok (.getfield 142, 3) := by decide +kernel
theorem dX11_forget_7 : decode cX11_forget 7 = .ok (.getfield 146, 3) := by decide +kernel
theorem dX11_forget_10 : decode cX11_forget 10 = .ok (.istore_n 1, 1) := by decide +kernel
theorem dX11_forget_11 : decode cX11_forget 11 = .ok (.aload_n 0, 1) := by decide +kernel
theorem dX11_forget_12 : decode cX11_forget 12 = .ok (.getfield 37, 3) := by decide +kernel
theorem dX11_forget_15 : decode cX11_forget 15 = .ok (.getfield 142, 3) := by decide +kernel
theorem dX11_forget_18 : decode cX11_forget 18 = .ok (.iconst 0, 1) := by decide +kernel
theorem dX11_forget_19 : decode cX11_forget 19 = .ok (.putfield 146, 3) := by decide +kernel
theorem dX11_forget_22 : decode cX11_forget 22 = .ok (.aload_n 0, 1) := by decide +kernel
theorem dX11_forget_23 : decode cX11_forget 23 = .ok (.getfield 37, 3) := by decide +kernel
theorem dX11_forget_26 : decode cX11_forget 26 = .ok (.getfield 151, 3) := by decide +kernel
theorem dX11_forget_29 : decode cX11_forget 29 = .ok (.iconst 0, 1) := by decide +kernel
theorem dX11_forget_30 : decode cX11_forget 30 = .ok (.putfield 155, 3) := by decide +kernel
theorem dX11_forget_33 : decode cX11_forget 33 = .ok (.iload_n 1, 1) := by decide +kernel
theorem dX11_forget_34 : decode cX11_forget 34 = .ok (.ireturn, 1) := by decide +kernel
theorem dX11_isStepCount_0 : decode cX11_isStepCount 0 = .ok (.iload_n 0, 1) := by decide +kernel
theorem dX11_isStepCount_1 : decode cX11_isStepCount 1 = .ok (.ifCond .lt 13, 3) := by decide +kernel
theorem dX11_isStepCount_4 : decode cX11_isStepCount 4 = .ok (.iload_n 0, 1) := by decide +kernel
theorem dX11_isStepCount_5 : decode cX11_isStepCount 5 = .ok (.ldc 205, 2) := by decide +kernel
theorem dX11_isStepCount_7 : decode cX11_isStepCount 7 = .ok (.if_icmp .gt 7, 3) := by decide +kernel
theorem dX11_isStepCount_10 : decode cX11_isStepCount 10 = .ok (.iconst 1, 1) := by decide +kernel
theorem dX11_isStepCount_11 : decode cX11_isStepCount 11 = .ok (.goto 4, 3) := by decide +kernel
theorem dX11_isStepCount_14 : decode cX11_isStepCount 14 = .ok (.iconst 0, 1) := by decide +kernel
theorem dX11_isStepCount_15 : decode cX11_isStepCount 15 = .ok (.ireturn, 1) := by decide +kernel
theorem dX12_init_0 : decode cX12_init 0 = .ok (.aload_n 0, 1) := by decide +kernel
theorem dX12_init_1 : decode cX12_init 1 = .ok (.invokespecial 1, 3) := by decide +kernel
theorem dX12_init_4 : decode cX12_init 4 = .ok (.aload_n 0, 1) := by decide +kernel
theorem dX12_init_5 : decode cX12_init 5 = .ok (.sipush 4096, 3) := by decide +kernel
theorem dX12_init_8 : decode cX12_init 8 = .ok (.newarray .int, 2) := by decide +kernel
theorem dX12_init_10 : decode cX12_init 10 = .ok (.putfield 7, 3) := by decide +kernel
theorem dX12_init_13 : decode cX12_init 13 = .ok (.aload_n 0, 1) := by decide +kernel
theorem dX12_init_14 : decode cX12_init 14 = .ok (.sipush 600, 3) := by decide +kernel
theorem dX12_init_17 : decode cX12_init 17 = .ok (.newarray .int, 2) := by decide +kernel
theorem dX12_init_19 : decode cX12_init 19 = .ok (.putfield 13, 3) := by decide +kernel
theorem dX12_init_22 : decode cX12_init 22 = .ok (.aload_n 0, 1) := by decide +kernel
theorem dX12_init_23 : decode cX12_init 23 = .ok (.bipush 120, 2) := by decide +kernel
theorem dX12_init_25 : decode cX12_init 25 = .ok (.newarray .int, 2) := by decide +kernel
theorem dX12_init_27 : decode cX12_init 27 = .ok (.putfield 16, 3) := by decide +kernel
theorem dX12_init_30 : decode cX12_init 30 = .ok (.aload_n 0, 1) := by decide +kernel
theorem dX12_init_31 : decode cX12_init 31 = .ok (.sipush 4096, 3) := by decide +kernel
theorem dX12_init_34 : decode cX12_init 34 = .ok (.newarray .boolean, 2) := by decide +kernel
theorem dX12_init_36 : decode cX12_init 36 = .ok (.putfield 19, 3) := by decide +kernel
theorem dX12_init_39 : decode cX12_init 39 = .ok (.aload_n 0, 1) := by decide +kernel
theorem dX12_init_40 : decode cX12_init 40 = .ok (.sipush 8200, 3) := by decide +kernel
theorem dX12_init_43 : decode cX12_init 43 = .ok (.newarray .int, 2) := by decide +kernel
theorem dX12_init_45 : decode cX12_init 45 = .ok (.putfield 23, 3) := by decide +kernel
theorem dX12_init_48 : decode cX12_init 48 = .ok (.aload_n 0, 1) := by decide +kernel
theorem dX12_init_49 : decode cX12_init 49 = .ok (.bipush 40, 2) := by decide +kernel
theorem dX12_init_51 : decode cX12_init 51 = .ok (.newarray .int, 2) := by decide +kernel
theorem dX12_init_53 : decode cX12_init 53 = .ok (.putfield 26, 3) := by decide +kernel
theorem dX12_init_56 : decode cX12_init 56 = .ok (.aload_n 0, 1) := by decide +kernel
theorem dX12_init_57 : decode cX12_init 57 = .ok (.bipush 40, 2) := by decide +kernel
theorem dX12_init_59 : decode cX12_init 59 = .ok (.newarray .int, 2) := by decide +kernel
theorem dX12_init_61 : decode cX12_init 61 = .ok (.putfield 29, 3) := by decide +kernel
theorem dX12_init_64 : decode cX12_init 64 = .ok (.aload_n 0, 1) := by decide +kernel
theorem dX12_init_65 : decode cX12_init 65 = .ok (.bipush 40, 2) := by decide +kernel
theorem dX12_init_67 : decode cX12_init 67 = .ok (.newarray .int, 2) := by decide +kernel
theorem dX12_init_69 : decode cX12_init 69 = .ok (.putfield 32, 3) := by decide +kernel
theorem dX12_init_72 : decode cX12_init 72 = .ok (.aload_n 0, 1) := by decide +kernel
theorem dX12_init_73 : decode cX12_init 73 = .ok (.bipush 40, 2) := by decide +kernel
theorem dX12_init_75 : decode cX12_init 75 = .ok (.newarray .int, 2) := by decide +kernel
theorem dX12_init_77 : decode cX12_init 77 = .ok (.putfield 35, 3) := by decide +kernel
theorem dX12_init_80 : decode cX12_init 80 = .ok (.aload_n 0, 1) := by decide +kernel
theorem dX12_init_81 : decode cX12_init 81 = .ok (.sipush 320, 3) := by decide +kernel
theorem dX12_init_84 : decode cX12_init 84 = .ok (.newarray .int, 2) := by decide +kernel
theorem dX12_init_86 : decode cX12_init 86 = .ok (.putfield 38, 3) := by decide +kernel
theorem dX12_init_89 : decode cX12_init 89 = .ok (.aload_n 0, 1) := by decide +kernel
theorem dX12_init_90 : decode cX12_init 90 = .ok (.bipush 40, 2) := by decide +kernel
theorem dX12_init_92 : decode cX12_init 92 = .ok (.newarray .boolean, 2) := by decide +kernel
theorem dX12_init_94 : decode cX12_init 94 = .ok (.putfield 41, 3) := by decide +kernel
theorem dX12_init_97 : decode cX12_init 97 = .ok (.aload_n 0, 1) := by decide +kernel
theorem dX12_init_98 : decode cX12_init 98 = .ok (.bipush 40, 2) := by decide +kernel
theorem dX12_init_100 : decode cX12_init 100 = .ok (.newarray .int, 2) := by decide +kernel
theorem dX12_init_102 : decode cX12_init 102 = .ok (.putfield 44, 3) := by decide +kernel
theorem dX12_init_105 : decode cX12_init 105 = .ok (.aload_n 0, 1) := by decide +kernel
theorem dX12_init_106 : decode cX12_init 106 = .ok (.bipush 40, 2) := by decide +kernel
theorem dX12_init_108 : decode cX12_init 108 = .ok (.newarray .int, 2) := by decide +kernel
theorem dX12_init_110 : decode cX12_init 110 = .ok (.putfield 47, 3) := by decide +kernel
theorem dX12_init_113 : decode cX12_init 113 = .ok (.aload_n 0, 1) := by decide +kernel
theorem dX12_init_114 : decode cX12_init 114 = .ok (.sipush 1000, 3) := by decide +kernel
theorem dX12_init_117 : decode cX12_init 117 = .ok (.newarray .int, 2) := by decide +kernel
theorem dX12_init_119 : decode cX12_init 119 = .ok (.putfield 50, 3) := by decide +kernel
theorem dX12_init_122 : decode cX12_init 122 = .ok (.aload_n 0, 1) := by decide +kernel
theorem dX12_init_123 : decode cX12_init 123 = .ok (.iconst 4, 1) := by decide +kernel
theorem dX12_init_124 : decode cX12_init 124 = .ok (.newarray .int, 2) := by decide +kernel
theorem dX12_init_126 : decode cX12_init 126 = .ok (.putfield 53, 3) := by decide +kernel
theorem dX12_init_129 : decode cX12_init 129 = .ok (.aload_n 0, 1) := by decide +kernel
theorem dX12_init_130 : decode cX12_init 130 = .ok (.bipush 60, 2) := by decide +kernel
theorem dX12_init_132 : decode cX12_init 132 = .ok (.newarray .int, 2) := by decide +kernel
theorem dX12_init_134 : decode cX12_init 134 = .ok (.putfield 56, 3) := by decide +kernel
theorem dX12_init_137 : decode cX12_init 137 = .ok (.aload_n 0, 1) := by decide +kernel
theorem dX12_init_138 : decode cX12_init 138 = .ok (.sipush 1200, 3) := by decide +kernel
theorem dX12_init_141 : decode cX12_init 141 = .ok (.newarray .int, 2) := by decide +kernel
theorem dX12_init_143 : decode cX12_init 143 = .ok (.putfield 59, 3) := by decide +kernel
theorem dX12_init_146 : decode cX12_init 146 = .ok (.aload_n 0, 1) := by decide +kernel
theorem dX12_init_147 : decode cX12_init 147 = .ok (.bipush 60, 2) := by decide +kernel
theorem dX12_init_149 : decode cX12_init 149 = .ok (.newarray .int, 2) := by decide +kernel
theorem dX12_init_151 : decode cX12_init 151 = .ok (.putfield 62, 3) := by decide +kernel
theorem dX12_init_154 : decode cX12_init 154 = .ok (.aload_n 0, 1) := by decide +kernel
theorem dX12_init_155 : decode cX12_init 155 = .ok (.bipush 60, 2) := by decide +kernel
theorem dX12_init_157 : decode cX12_init 157 = .ok (.newarray .int, 2) := by decide +kernel
theorem dX12_init_159 : decode cX12_init 159 = .ok (.putfield 65, 3) := by decide +kernel
theorem dX12_init_162 : decode cX12_init 162 = .ok (.aload_n 0, 1) := by decide +kernel
theorem dX12_init_163 : decode cX12_init 163 = .ok (.sipush 2400, 3) := by decide +kernel
theorem dX12_init_166 : decode cX12_init 166 = .ok (.newarray .int, 2) := by decide +kernel
theorem dX12_init_168 : decode cX12_init 168 = .ok (.putfield 68, 3) := by decide +kernel
theorem dX12_init_171 : decode cX12_init 171 = .ok (.aload_n 0, 1) := by decide +kernel
theorem dX12_init_172 : decode cX12_init 172 = .ok (.bipush 20, 2) := by decide +kernel
theorem dX12_init_174 : decode cX12_init 174 = .ok (.newarray .int, 2) := by decide +kernel
theorem dX12_init_176 : decode cX12_init 176 = .ok (.putfield 71, 3) := by decide +kernel
theorem dX12_init_179 : decode cX12_init 179 = .ok (.aload_n 0, 1) := by decide +kernel
theorem dX12_init_180 : decode cX12_init 180 = .ok (.bipush 20, 2) := by decide +kernel
theorem dX12_init_182 : decode cX12_init 182 = .ok (.newarray .int, 2) := by decide +kernel
theorem dX12_init_184 : decode cX12_init 184 = .ok (.putfield 74, 3) := by decide +kernel
theorem dX12_init_187 : decode cX12_init 187 = .ok (.aload_n 0, 1) := by decide +kernel
theorem dX12_init_188 : decode cX12_init 188 = .ok (.bipush 20, 2) := by decide +kernel
theorem dX12_init_190 : decode cX12_init 190 = .ok (.newarray .int, 2) := by decide +kernel
theorem dX12_init_192 : decode cX12_init 192 = .ok (.putfield 77, 3) := by decide +kernel
theorem dX12_init_195 : decode cX12_init 195 = .ok (.aload_n 0, 1) := by decide +kernel
theorem dX12_init_196 : decode cX12_init 196 = .ok (.iconst (-1), 1) := by decide +kernel
theorem dX12_init_197 : decode cX12_init 197 = .ok (.putfield 80, 3) := by decide +kernel
theorem dX12_init_200 : decode cX12_init 200 = .ok (.aload_n 0, 1) := by decide +kernel
theorem dX12_init_201 : decode cX12_init 201 = .ok (.bipush 121, 2) := by decide +kernel
theorem dX12_init_203 : decode cX12_init 203 = .ok (.newarray .int, 2) := by decide +kernel
theorem dX12_init_205 : decode cX12_init 205 = .ok (.putfield 84, 3) := by decide +kernel
theorem dX12_init_208 : decode cX12_init 208 = .ok (.aload_n 0, 1) := by decide +kernel
theorem dX12_init_209 : decode cX12_init 209 = .ok (.bipush 121, 2) := by decide +kernel
theorem dX12_init_211 : decode cX12_init 211 = .ok (.newarray .int, 2) := by decide +kernel
theorem dX12_init_213 : decode cX12_init 213 = .ok (.putfield 87, 3) := by decide +kernel
theorem dX12_init_216 : decode cX12_init 216 = .ok (.aload_n 0, 1) := by decide +kernel
theorem dX12_init_217 : decode cX12_init 217 = .ok (.bipush 120, 2) := by decide +kernel
theorem dX12_init_219 : decode cX12_init 219 = .ok (.newarray .int, 2) := by decide +kernel
theorem dX12_init_221 : decode cX12_init 221 = .ok (.putfield 90, 3) := by decide +kernel
theorem dX12_init_224 : decode cX12_init 224 = .ok (.aload_n 0, 1) := by decide +kernel
theorem dX12_init_225 : decode cX12_init 225 = .ok (.bipush 122, 2) := by decide +kernel
theorem dX12_init_227 : decode cX12_init 227 = .ok (.newarray .int, 2) := by decide +kernel
theorem dX12_init_229 : decode cX12_init 229 = .ok (.putfield 93, 3) := by decide +kernel
theorem dX12_init_232 : decode cX12_init 232 = .ok (.aload_n 0, 1) := by decide +kernel
theorem dX12_init_233 : decode cX12_init 233 = .ok (.bipush 122, 2) := by decide +kernel
theorem dX12_init_235 : decode cX12_init 235 = .ok (.newarray .int, 2) := by decide +kernel
theorem dX12_init_237 : decode cX12_init 237 = .ok (.putfield 96, 3) := by decide +kernel
theorem dX12_init_240 : decode cX12_init 240 = .ok (.aload_n 0, 1) := by decide +kernel
theorem dX12_init_241 : decode cX12_init 241 = .ok (.bipush 122, 2) := by decide +kernel
theorem dX12_init_243 : decode cX12_init 243 = .ok (.newarray .boolean, 2) := by decide +kernel
theorem dX12_init_245 : decode cX12_init 245 = .ok (.putfield 99, 3) := by decide +kernel
theorem dX12_init_248 : decode cX12_init 248 = .ok (.aload_n 0, 1) := by decide +kernel
theorem dX12_init_249 : decode cX12_init 249 = .ok (.bipush 122, 2) := by decide +kernel
theorem dX12_init_251 : decode cX12_init 251 = .ok (.newarray .int, 2) := by decide +kernel
theorem dX12_init_253 : decode cX12_init 253 = .ok (.putfield 102, 3) := by decide +kernel
theorem dX12_init_256 : decode cX12_init 256 = .ok (.aload_n 0, 1) := by decide +kernel
theorem dX12_init_257 : decode cX12_init 257 = .ok (.bipush 122, 2) := by decide +kernel
theorem dX12_init_259 : decode cX12_init 259 = .ok (.newarray .int, 2) := by decide +kernel
theorem dX12_init_261 : decode cX12_init 261 = .ok (.putfield 105, 3) := by decide +kernel
theorem dX12_init_264 : decode cX12_init 264 = .ok (.aload_n 0, 1) := by decide +kernel
theorem dX12_init_265 : decode cX12_init 265 = .ok (.bipush 122, 2) := by decide +kernel
theorem dX12_init_267 : decode cX12_init 267 = .ok (.newarray .int, 2) := by decide +kernel
theorem dX12_init_269 : decode cX12_init 269 = .ok (.putfield 108, 3) := by decide +kernel
theorem dX12_init_272 : decode cX12_init 272 = .ok (.aload_n 0, 1) := by decide +kernel
theorem dX12_init_273 : decode cX12_init 273 = .ok (.bipush 122, 2) := by decide +kernel
theorem dX12_init_275 : decode cX12_init 275 = .ok (.newarray .int, 2) := by decide +kernel
theorem dX12_init_277 : decode cX12_init 277 = .ok (.putfield 111, 3) := by decide +kernel
theorem dX12_init_280 : decode cX12_init 280 = .ok (.aload_n 0, 1) := by decide +kernel
