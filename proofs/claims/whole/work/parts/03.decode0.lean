theorem dX0_init_0 : decode cX0_init 0 = .ok (.aload_n 0, 1) := by decide +kernel
theorem dX0_init_1 : decode cX0_init 1 = .ok (.invokespecial 3, 3) := by decide +kernel
theorem dX0_init_4 : decode cX0_init 4 = .ok (.aload_n 0, 1) := by decide +kernel
theorem dX0_init_5 : decode cX0_init 5 = .ok (.bipush 16, 2) := by decide +kernel
theorem dX0_init_7 : decode cX0_init 7 = .ok (.newarray .int, 2) := by decide +kernel
theorem dX0_init_9 : decode cX0_init 9 = .ok (.putfield 9, 3) := by decide +kernel
theorem dX0_init_12 : decode cX0_init 12 = .ok (.aload_n 0, 1) := by decide +kernel
theorem dX0_init_13 : decode cX0_init 13 = .ok (.bipush 16, 2) := by decide +kernel
theorem dX0_init_15 : decode cX0_init 15 = .ok (.newarray .int, 2) := by decide +kernel
theorem dX0_init_17 : decode cX0_init 17 = .ok (.putfield 15, 3) := by decide +kernel
theorem dX0_init_20 : decode cX0_init 20 = .ok (.aload_n 0, 1) := by decide +kernel
theorem dX0_init_21 : decode cX0_init 21 = .ok (.aload_n 1, 1) := by decide +kernel
theorem dX0_init_22 : decode cX0_init 22 = .ok (.putfield 18, 3) := by decide +kernel
theorem dX0_init_25 : decode cX0_init 25 = .ok (.aload_n 0, 1) := by decide +kernel
theorem dX0_init_26 : decode cX0_init 26 = .ok (.aload_n 2, 1) := by decide +kernel
theorem dX0_init_27 : decode cX0_init 27 = .ok (.putfield 22, 3) := by decide +kernel
theorem dX0_init_30 : decode cX0_init 30 = .ok (.return_, 1) := by decide +kernel
theorem dX0_arrange_0 : decode cX0_arrange 0 = .ok (.aload_n 0, 1) := by decide +kernel
theorem dX0_arrange_1 : decode cX0_arrange 1 = .ok (.getfield 22, 3) := by decide +kernel
theorem dX0_arrange_4 : decode cX0_arrange 4 = .ok (.invokevirtual 26, 3) := by decide +kernel
theorem dX0_arrange_7 : decode cX0_arrange 7 = .ok (.iconst 0, 1) := by decide +kernel
theorem dX0_arrange_8 : decode cX0_arrange 8 = .ok (.istore_n 2, 1) := by decide +kernel
theorem dX0_arrange_9 : decode cX0_arrange 9 = .ok (.iload_n 2, 1) := by decide +kernel
theorem dX0_arrange_10 : decode cX0_arrange 10 = .ok (.aload_n 0, 1) := by decide +kernel
theorem dX0_arrange_11 : decode cX0_arrange 11 = .ok (.getfield 18, 3) := by decide +kernel
theorem dX0_arrange_14 : decode cX0_arrange 14 = .ok (.getfield 31, 3) := by decide +kernel
theorem dX0_arrange_17 : decode cX0_arrange 17 = .ok (.if_icmp .ge 32, 3) := by decide +kernel
theorem dX0_arrange_20 : decode cX0_arrange 20 = .ok (.aload_n 0, 1) := by decide +kernel
theorem dX0_arrange_21 : decode cX0_arrange 21 = .ok (.getfield 9, 3) := by decide +kernel
theorem dX0_arrange_24 : decode cX0_arrange 24 = .ok (.iload_n 2, 1) := by decide +kernel
theorem dX0_arrange_25 : decode cX0_arrange 25 = .ok (.aload_n 0, 1) := by decide +kernel
theorem dX0_arrange_26 : decode cX0_arrange 26 = .ok (.getfield 18, 3) := by decide +kernel
theorem dX0_arrange_29 : decode cX0_arrange 29 = .ok (.getfield 37, 3) := by decide +kernel
theorem dX0_arrange_32 : decode cX0_arrange 32 = .ok (.iload_n 2, 1) := by decide +kernel
theorem dX0_arrange_33 : decode cX0_arrange 33 = .ok (.baload, 1) := by decide +kernel
theorem dX0_arrange_34 : decode cX0_arrange 34 = .ok (.ifCond .eq 7, 3) := by decide +kernel
theorem dX0_arrange_37 : decode cX0_arrange 37 = .ok (.iload_n 2, 1) := by decide +kernel
theorem dX0_arrange_38 : decode cX0_arrange 38 = .ok (.goto 4, 3) := by decide +kernel
theorem dX0_arrange_41 : decode cX0_arrange 41 = .ok (.iconst (-1), 1) := by decide +kernel
theorem dX0_arrange_42 : decode cX0_arrange 42 = .ok (.iastore, 1) := by decide +kernel
theorem dX0_arrange_43 : decode cX0_arrange 43 = .ok (.iinc 2 1, 3) := by decide +kernel
theorem dX0_arrange_46 : decode cX0_arrange 46 = .ok (.goto (-37), 3) := by decide +kernel
theorem dX0_arrange_49 : decode cX0_arrange 49 = .ok (.iconst (-1), 1) := by decide +kernel
theorem dX0_arrange_50 : decode cX0_arrange 50 = .ok (.istore_n 2, 1) := by decide +kernel
theorem dX0_arrange_51 : decode cX0_arrange 51 = .ok (.iconst 0, 1) := by decide +kernel
theorem dX0_arrange_52 : decode cX0_arrange 52 = .ok (.istore_n 3, 1) := by decide +kernel
theorem dX0_arrange_53 : decode cX0_arrange 53 = .ok (.iload_n 3, 1) := by decide +kernel
theorem dX0_arrange_54 : decode cX0_arrange 54 = .ok (.aload_n 0, 1) := by decide +kernel
theorem dX0_arrange_55 : decode cX0_arrange 55 = .ok (.getfield 18, 3) := by decide +kernel
theorem dX0_arrange_58 : decode cX0_arrange 58 = .ok (.getfield 31, 3) := by decide +kernel
theorem dX0_arrange_61 : decode cX0_arrange 61 = .ok (.if_icmp .ge 43, 3) := by decide +kernel
theorem dX0_arrange_64 : decode cX0_arrange 64 = .ok (.aload_n 0, 1) := by decide +kernel
theorem dX0_arrange_65 : decode cX0_arrange 65 = .ok (.getfield 18, 3) := by decide +kernel
theorem dX0_arrange_68 : decode cX0_arrange 68 = .ok (.getfield 37, 3) := by decide +kernel
theorem dX0_arrange_71 : decode cX0_arrange 71 = .ok (.iload_n 3, 1) := by decide +kernel
theorem dX0_arrange_72 : decode cX0_arrange 72 = .ok (.baload, 1) := by decide +kernel
theorem dX0_arrange_73 : decode cX0_arrange 73 = .ok (.ifCond .eq 6, 3) := by decide +kernel
theorem dX0_arrange_76 : decode cX0_arrange 76 = .ok (.goto 22, 3) := by decide +kernel
theorem dX0_arrange_79 : decode cX0_arrange 79 = .ok (.aload_n 0, 1) := by decide +kernel
theorem dX0_arrange_80 : decode cX0_arrange 80 = .ok (.iload_n 1, 1) := by decide +kernel
theorem dX0_arrange_81 : decode cX0_arrange 81 = .ok (.iload_n 2, 1) := by decide +kernel
theorem dX0_arrange_82 : decode cX0_arrange 82 = .ok (.invokevirtual 41, 3) := by decide +kernel
theorem dX0_arrange_85 : decode cX0_arrange 85 = .ok (.istore_n 2, 1) := by decide +kernel
theorem dX0_arrange_86 : decode cX0_arrange 86 = .ok (.iload_n 2, 1) := by decide +kernel
theorem dX0_arrange_87 : decode cX0_arrange 87 = .ok (.iconst (-1), 1) := by decide +kernel
theorem dX0_arrange_88 : decode cX0_arrange 88 = .ok (.if_icmp .eq 10, 3) := by decide +kernel
theorem dX0_arrange_91 : decode cX0_arrange 91 = .ok (.aload_n 0, 1) := by decide +kernel
theorem dX0_arrange_92 : decode cX0_arrange 92 = .ok (.getfield 9, 3) := by decide +kernel
theorem dX0_arrange_95 : decode cX0_arrange 95 = .ok (.iload_n 2, 1) := by decide +kernel
theorem dX0_arrange_96 : decode cX0_arrange 96 = .ok (.iload_n 3, 1) := by decide +kernel
theorem dX0_arrange_97 : decode cX0_arrange 97 = .ok (.iastore, 1) := by decide +kernel
theorem dX0_arrange_98 : decode cX0_arrange 98 = .ok (.iinc 3 1, 3) := by decide +kernel
theorem dX0_arrange_101 : decode cX0_arrange 101 = .ok (.goto (-48), 3) := by decide +kernel
theorem dX0_arrange_104 : decode cX0_arrange 104 = .ok (.aload_n 0, 1) := by decide +kernel
theorem dX0_arrange_105 : decode cX0_arrange 105 = .ok (.invokevirtual 45, 3) := by decide +kernel
theorem dX0_arrange_108 : decode cX0_arrange 108 = .ok (.aload_n 0, 1) := by decide +kernel
theorem dX0_arrange_109 : decode cX0_arrange 109 = .ok (.invokevirtual 48, 3) := by decide +kernel
theorem dX0_arrange_112 : decode cX0_arrange 112 = .ok (.ireturn, 1) := by decide +kernel
theorem dX0_chooseNext_0 : decode cX0_chooseNext 0 = .ok (.iconst (-1), 1) := by decide +kernel
theorem dX0_chooseNext_1 : decode cX0_chooseNext 1 = .ok (.istore_n 3, 1) := by decide +kernel
theorem dX0_chooseNext_2 : decode cX0_chooseNext 2 = .ok (.iconst 0, 1) := by decide +kernel
theorem dX0_chooseNext_3 : decode cX0_chooseNext 3 = .ok (.istore 4, 2) := by decide +kernel
theorem dX0_chooseNext_5 : decode cX0_chooseNext 5 = .ok (.iconst 0, 1) := by decide +kernel
theorem dX0_chooseNext_6 : decode cX0_chooseNext 6 = .ok (.istore 5, 2) := by decide +kernel
theorem dX0_chooseNext_8 : decode cX0_chooseNext 8 = .ok (.iload 5, 2) := by decide +kernel
theorem dX0_chooseNext_10 : decode cX0_chooseNext 10 = .ok (.aload_n 0, 1) := by decide +kernel
theorem dX0_chooseNext_11 : decode cX0_chooseNext 11 = .ok (.getfield 18, 3) := by decide +kernel
theorem dX0_chooseNext_14 : decode cX0_chooseNext 14 = .ok (.getfield 31, 3) := by decide +kernel
theorem dX0_chooseNext_17 : decode cX0_chooseNext 17 = .ok (.if_icmp .ge 52, 3) := by decide +kernel
theorem dX0_chooseNext_20 : decode cX0_chooseNext 20 = .ok (.aload_n 0, 1) := by decide +kernel
theorem dX0_chooseNext_21 : decode cX0_chooseNext 21 = .ok (.getfield 9, 3) := by decide +kernel
theorem dX0_chooseNext_24 : decode cX0_chooseNext 24 = .ok (.iload 5, 2) := by decide +kernel
theorem dX0_chooseNext_26 : decode cX0_chooseNext 26 = .ok (.iaload, 1) := by decide +kernel
theorem dX0_chooseNext_27 : decode cX0_chooseNext 27 = .ok (.iconst (-1), 1) := by decide +kernel
theorem dX0_chooseNext_28 : decode cX0_chooseNext 28 = .ok (.if_icmp .eq 6, 3) := by decide +kernel
theorem dX0_chooseNext_31 : decode cX0_chooseNext 31 = .ok (.goto 32, 3) := by decide +kernel
theorem dX0_chooseNext_34 : decode cX0_chooseNext 34 = .ok (.aload_n 0, 1) := by decide +kernel
theorem dX0_chooseNext_35 : decode cX0_chooseNext 35 = .ok (.iload 5, 2) := by decide +kernel
theorem dX0_chooseNext_37 : decode cX0_chooseNext 37 = .ok (.iload_n 1, 1) := by decide +kernel
theorem dX0_chooseNext_38 : decode cX0_chooseNext 38 = .ok (.iload_n 2, 1) := by decide +kernel
theorem dX0_chooseNext_39 : decode cX0_chooseNext 39 = .ok (.invokevirtual 52, 3) := by decide +kernel
theorem dX0_chooseNext_42 : decode cX0_chooseNext 42 = .ok (.istore 6, 2) := by decide +kernel
theorem dX0_chooseNext_44 : decode cX0_chooseNext 44 = .ok (.iload_n 3, 1) := by decide +kernel
theorem dX0_chooseNext_45 : decode cX0_chooseNext 45 = .ok (.iconst (-1), 1) := by decide +kernel
theorem dX0_chooseNext_46 : decode cX0_chooseNext 46 = .ok (.if_icmp .eq 10, 3) := by decide +kernel
theorem dX0_chooseNext_49 : decode cX0_chooseNext 49 = .ok (.iload 6, 2) := by decide +kernel
theorem dX0_chooseNext_51 : decode cX0_chooseNext 51 = .ok (.iload 4, 2) := by decide +kernel
theorem dX0_chooseNext_53 : decode cX0_chooseNext 53 = .ok (.if_icmp .ge 10, 3) := by decide +kernel
theorem dX0_chooseNext_56 : decode cX0_chooseNext 56 = .ok (.iload 5, 2) := by decide +kernel
theorem dX0_chooseNext_58 : decode cX0_chooseNext 58 = .ok (.istore_n 3, 1) := by decide +kernel
theorem dX0_chooseNext_59 : decode cX0_chooseNext 59 = .ok (.iload 6, 2) := by decide +kernel
theorem dX0_chooseNext_61 : decode cX0_chooseNext 61 = .ok (.istore 4, 2) := by decide +kernel
theorem dX0_chooseNext_63 : decode cX0_chooseNext 63 = .ok (.iinc 5 1, 3) := by decide +kernel
theorem dX0_chooseNext_66 : decode cX0_chooseNext 66 = .ok (.goto (-58), 3) := by decide +kernel
theorem dX0_chooseNext_69 : decode cX0_chooseNext 69 = .ok (.iload_n 3, 1) := by decide +kernel
theorem dX0_chooseNext_70 : decode cX0_chooseNext 70 = .ok (.ireturn, 1) := by decide +kernel
theorem dX0_rankOf_0 : decode cX0_rankOf 0 = .ok (.aload_n 0, 1) := by decide +kernel
theorem dX0_rankOf_1 : decode cX0_rankOf 1 = .ok (.getfield 18, 3) := by decide +kernel
theorem dX0_rankOf_4 : decode cX0_rankOf 4 = .ok (.getfield 56, 3) := by decide +kernel
theorem dX0_rankOf_7 : decode cX0_rankOf 7 = .ok (.iload_n 1, 1) := by decide +kernel
theorem dX0_rankOf_8 : decode cX0_rankOf 8 = .ok (.iaload, 1) := by decide +kernel
theorem dX0_rankOf_9 : decode cX0_rankOf 9 = .ok (.istore 4, 2) := by decide +kernel
theorem dX0_rankOf_11 : decode cX0_rankOf 11 = .ok (.iload_n 2, 1) := by decide +kernel
theorem dX0_rankOf_12 : decode cX0_rankOf 12 = .ok (.ifCond .ne 28, 3) := by decide +kernel
theorem dX0_rankOf_15 : decode cX0_rankOf 15 = .ok (.iconst 2, 1) := by decide +kernel
theorem dX0_rankOf_16 : decode cX0_rankOf 16 = .ok (.iload 4, 2) := by decide +kernel
theorem dX0_rankOf_18 : decode cX0_rankOf 18 = .ok (.iconst 0, 1) := by decide +kernel
theorem dX0_rankOf_19 : decode cX0_rankOf 19 = .ok (.invokestatic 59, 3) := by decide +kernel
theorem dX0_rankOf_22 : decode cX0_rankOf 22 = .ok (.imul, 1) := by decide +kernel
theorem dX0_rankOf_23 : decode cX0_rankOf 23 = .ok (.iconst 5, 1) := by decide +kernel
theorem dX0_rankOf_24 : decode cX0_rankOf 24 = .ok (.iload 4, 2) := by decide +kernel
theorem dX0_rankOf_26 : decode cX0_rankOf 26 = .ok (.iconst 1, 1) := by decide +kernel
theorem dX0_rankOf_27 : decode cX0_rankOf 27 = .ok (.invokestatic 59, 3) := by decide +kernel
theorem dX0_rankOf_30 : decode cX0_rankOf 30 = .ok (.imul, 1) := by decide +kernel
theorem dX0_rankOf_31 : decode cX0_rankOf 31 = .ok (.iadd, 1) := by decide +kernel
theorem dX0_rankOf_32 : decode cX0_rankOf 32 = .ok (.iload 4, 2) := by decide +kernel
theorem dX0_rankOf_34 : decode cX0_rankOf 34 = .ok (.iconst 2, 1) := by decide +kernel
theorem dX0_rankOf_35 : decode cX0_rankOf 35 = .ok (.invokestatic 59, 3) := by decide +kernel
theorem dX0_rankOf_38 : decode cX0_rankOf 38 = .ok (.iadd, 1) := by decide +kernel
theorem dX0_rankOf_39 : decode cX0_rankOf 39 = .ok (.ireturn, 1) := by decide +kernel
theorem dX0_rankOf_40 : decode cX0_rankOf 40 = .ok (.iload_n 2, 1) := by decide +kernel
theorem dX0_rankOf_41 : decode cX0_rankOf 41 = .ok (.iconst 1, 1) := by decide +kernel
theorem dX0_rankOf_42 : decode cX0_rankOf 42 = .ok (.if_icmp .ne 14, 3) := by decide +kernel
theorem dX0_rankOf_45 : decode cX0_rankOf 45 = .ok (.aload_n 0, 1) := by decide +kernel
theorem dX0_rankOf_46 : decode cX0_rankOf 46 = .ok (.getfield 22, 3) := by decide +kernel
theorem dX0_rankOf_49 : decode cX0_rankOf 49 = .ok (.getfield 62, 3) := by decide +kernel
theorem dX0_rankOf_52 : decode cX0_rankOf 52 = .ok (.iload_n 1, 1) := by decide +kernel
theorem dX0_rankOf_53 : decode cX0_rankOf 53 = .ok (.iaload, 1) := by decide +kernel
theorem dX0_rankOf_54 : decode cX0_rankOf 54 = .ok (.ineg, 1) := by decide +kernel
theorem dX0_rankOf_55 : decode cX0_rankOf 55 = .ok (.ireturn, 1) := by decide +kernel
theorem dX0_rankOf_56 : decode cX0_rankOf 56 = .ok (.aload_n 0, 1) := by decide +kernel
theorem dX0_rankOf_57 : decode cX0_rankOf 57 = .ok (.getfield 18, 3) := by decide +kernel
theorem dX0_rankOf_60 : decode cX0_rankOf 60 = .ok (.iload_n 3, 1) := by decide +kernel
theorem dX0_rankOf_61 : decode cX0_rankOf 61 = .ok (.invokevirtual 65, 3) := by decide +kernel
theorem dX0_rankOf_64 : decode cX0_rankOf 64 = .ok (.ifCond .eq 24, 3) := by decide +kernel
theorem dX0_rankOf_67 : decode cX0_rankOf 67 = .ok (.aload_n 0, 1) := by decide +kernel
theorem dX0_rankOf_68 : decode cX0_rankOf 68 = .ok (.getfield 18, 3) := by decide +kernel
theorem dX0_rankOf_71 : decode cX0_rankOf 71 = .ok (.iload 4, 2) := by decide +kernel
theorem dX0_rankOf_73 : decode cX0_rankOf 73 = .ok (.aload_n 0, 1) := by decide +kernel
theorem dX0_rankOf_74 : decode cX0_rankOf 74 = .ok (.getfield 18, 3) := by decide +kernel
theorem dX0_rankOf_77 : decode cX0_rankOf 77 = .ok (.getfield 56, 3) := by decide +kernel
theorem dX0_rankOf_80 : decode cX0_rankOf 80 = .ok (.iload_n 3, 1) := by decide +kernel
theorem dX0_rankOf_81 : decode cX0_rankOf 81 = .ok (.iaload, 1) := by decide +kernel
theorem dX0_rankOf_82 : decode cX0_rankOf 82 = .ok (.invokevirtual 69, 3) := by decide +kernel
theorem dX0_rankOf_85 : decode cX0_rankOf 85 = .ok (.goto 5, 3) := by decide +kernel
theorem dX0_rankOf_88 : decode cX0_rankOf 88 = .ok (.iload 4, 2) := by decide +kernel
theorem dX0_rankOf_90 : decode cX0_rankOf 90 = .ok (.ireturn, 1) := by decide +kernel
theorem dX0_renumberIndices_0 : decode cX0_renumberIndices 0 = .ok (.iconst 0, 1) := by decide +kernel
theorem dX0_renumberIndices_1 : decode cX0_renumberIndices 1 = .ok (.istore_n 1, 1) := by decide +kernel
theorem dX0_renumberIndices_2 : decode cX0_renumberIndices 2 = .ok (.iload_n 1, 1) := by decide +kernel
theorem dX0_renumberIndices_3 : decode cX0_renumberIndices 3 = .ok (.aload_n 0, 1) := by decide +kernel
theorem dX0_renumberIndices_4 : decode cX0_renumberIndices 4 = .ok (.getfield 18, 3) := by decide +kernel
theorem dX0_renumberIndices_7 : decode cX0_renumberIndices 7 = .ok (.invokevirtual 72, 3) := by decide +kernel
theorem dX0_renumberIndices_10 : decode cX0_renumberIndices 10 = .ok (.if_icmp .ge 45, 3) := by decide +kernel
theorem dX0_renumberIndices_13 : decode cX0_renumberIndices 13 = .ok (.aload_n 0, 1) := by decide +kernel
theorem dX0_renumberIndices_14 : decode cX0_renumberIndices 14 = .ok (.getfield 18, 3) := by decide +kernel
theorem dX0_renumberIndices_17 : decode cX0_renumberIndices 17 = .ok (.getfield 75, 3) := by decide +kernel
theorem dX0_renumberIndices_20 : decode cX0_renumberIndices 20 = .ok (.iload_n 1, 1) := by decide +kernel
theorem dX0_renumberIndices_21 : decode cX0_renumberIndices 21 = .ok (.iaload, 1) := by decide +kernel
theorem dX0_renumberIndices_22 : decode cX0_renumberIndices 22 = .ok (.istore_n 2, 1) := by decide +kernel
theorem dX0_renumberIndices_23 : decode cX0_renumberIndices 23 = .ok (.aload_n 0, 1) := by decide +kernel
theorem dX0_renumberIndices_24 : decode cX0_renumberIndices 24 = .ok (.getfield 18, 3) := by decide +kernel
theorem dX0_renumberIndices_27 : decode cX0_renumberIndices 27 = .ok (.iload_n 2, 1) := by decide +kernel
theorem dX0_renumberIndices_28 : decode cX0_renumberIndices 28 = .ok (.invokevirtual 65, 3) := by decide +kernel
theorem dX0_renumberIndices_31 : decode cX0_renumberIndices 31 = .ok (.ifCond .eq 18, 3) := by decide +kernel
theorem dX0_renumberIndices_34 : decode cX0_renumberIndices 34 = .ok (.aload_n 0, 1) := by decide +kernel
theorem dX0_renumberIndices_35 : decode cX0_renumberIndices 35 = .ok (.getfield 18, 3) := by decide +kernel
theorem dX0_renumberIndices_38 : decode cX0_renumberIndices 38 = .ok (.getfield 75, 3) := by decide +kernel
theorem dX0_renumberIndices_41 : decode cX0_renumberIndices 41 = .ok (.iload_n 1, 1) := by decide +kernel
theorem dX0_renumberIndices_42 : decode cX0_renumberIndices 42 = .ok (.aload_n 0, 1) := by decide +kernel
theorem dX0_renumberIndices_43 : decode cX0_renumberIndices 43 = .ok (.getfield 9, 3) := by decide +kernel
theorem dX0_renumberIndices_46 : decode cX0_renumberIndices 46 = .ok (.iload_n 2, 1) := by decide +kernel
theorem dX0_renumberIndices_47 : decode cX0_renumberIndices 47 = .ok (.iaload, 1) := by decide +kernel
theorem dX0_renumberIndices_48 : decode cX0_renumberIndices 48 = .ok (.iastore, 1) := by decide +kernel
theorem dX0_renumberIndices_49 : decode cX0_renumberIndices 49 = .ok (.iinc 1 1, 3) := by decide +kernel
theorem dX0_renumberIndices_52 : decode cX0_renumberIndices 52 = .ok (.goto (-50), 3) := by decide +kernel
theorem dX0_renumberIndices_55 : decode cX0_renumberIndices 55 = .ok (.return_, 1) := by decide +kernel
theorem dX0_moveColors_0 : decode cX0_moveColors 0 = .ok (.aload_n 0, 1) := by decide +kernel
theorem dX0_moveColors_1 : decode cX0_moveColors 1 = .ok (.getfield 18, 3) := by decide +kernel
theorem dX0_moveColors_4 : decode cX0_moveColors 4 = .ok (.getfield 56, 3) := by decide +kernel
theorem dX0_moveColors_7 : decode cX0_moveColors 7 = .ok (.iconst 0, 1) := by decide +kernel
theorem dX0_moveColors_8 : decode cX0_moveColors 8 = .ok (.aload_n 0, 1) := by decide +kernel
theorem dX0_moveColors_9 : decode cX0_moveColors 9 = .ok (.getfield 15, 3) := by decide +kernel
theorem dX0_moveColors_12 : decode cX0_moveColors 12 = .ok (.iconst 0, 1) := by decide +kernel
theorem dX0_moveColors_13 : decode cX0_moveColors 13 = .ok (.bipush 16, 2) := by decide +kernel
theorem dX0_moveColors_15 : decode cX0_moveColors 15 = .ok (.invokestatic 78, 3) := by decide +kernel
theorem dX0_moveColors_18 : decode cX0_moveColors 18 = .ok (.iconst 0, 1) := by decide +kernel
theorem dX0_moveColors_19 : decode cX0_moveColors 19 = .ok (.istore_n 1, 1) := by decide +kernel
theorem dX0_moveColors_20 : decode cX0_moveColors 20 = .ok (.iconst 0, 1) := by decide +kernel
theorem dX0_moveColors_21 : decode cX0_moveColors 21 = .ok (.istore_n 2, 1) := by decide +kernel
theorem dX0_moveColors_22 : decode cX0_moveColors 22 = .ok (.iload_n 2, 1) := by decide +kernel
theorem dX0_moveColors_23 : decode cX0_moveColors 23 = .ok (.aload_n 0, 1) := by decide +kernel
theorem dX0_moveColors_24 : decode cX0_moveColors 24 = .ok (.getfield 18, 3) := by decide +kernel
theorem dX0_moveColors_27 : decode cX0_moveColors 27 = .ok (.getfield 31, 3) := by decide +kernel
theorem dX0_moveColors_30 : decode cX0_moveColors 30 = .ok (.if_icmp .ge 50, 3) := by decide +kernel
theorem dX0_moveColors_33 : decode cX0_moveColors 33 = .ok (.aload_n 0, 1) := by decide +kernel
theorem dX0_moveColors_34 : decode cX0_moveColors 34 = .ok (.getfield 9, 3) := by decide +kernel
theorem dX0_moveColors_37 : decode cX0_moveColors 37 = .ok (.iload_n 2, 1) := by decide +kernel
theorem dX0_moveColors_38 : decode cX0_moveColors 38 = .ok (.iaload, 1) := by decide +kernel
theorem dX0_moveColors_39 : decode cX0_moveColors 39 = .ok (.istore_n 3, 1) := by decide +kernel
theorem dX0_moveColors_40 : decode cX0_moveColors 40 = .ok (.iload_n 3, 1) := by decide +kernel
theorem dX0_moveColors_41 : decode cX0_moveColors 41 = .ok (.iload_n 2, 1) := by decide +kernel
theorem dX0_moveColors_42 : decode cX0_moveColors 42 = .ok (.if_icmp .eq 32, 3) := by decide +kernel
theorem dX0_moveColors_45 : decode cX0_moveColors 45 = .ok (.aload_n 0, 1) := by decide +kernel
theorem dX0_moveColors_46 : decode cX0_moveColors 46 = .ok (.getfield 18, 3) := by decide +kernel
theorem dX0_moveColors_49 : decode cX0_moveColors 49 = .ok (.iload_n 3, 1) := by decide +kernel
theorem dX0_moveColors_50 : decode cX0_moveColors 50 = .ok (.invokevirtual 65, 3) := by decide +kernel
theorem dX0_moveColors_53 : decode cX0_moveColors 53 = .ok (.ifCond .eq 21, 3) := by decide +kernel
theorem dX0_moveColors_56 : decode cX0_moveColors 56 = .ok (.aload_n 0, 1) := by decide +kernel
theorem dX0_moveColors_57 : decode cX0_moveColors 57 = .ok (.getfield 18, 3) := by decide +kernel
theorem dX0_moveColors_60 : decode cX0_moveColors 60 = .ok (.getfield 56, 3) := by decide +kernel
theorem dX0_moveColors_63 : decode cX0_moveColors 63 = .ok (.iload_n 3, 1) := by decide +kernel
theorem dX0_moveColors_64 : decode cX0_moveColors 64 = .ok (.aload_n 0, 1) := by decide +kernel
theorem dX0_moveColors_65 : decode cX0_moveColors 65 = .ok (.getfield 15, 3) := by decide +kernel
theorem dX0_moveColors_68 : decode cX0_moveColors 68 = .ok (.iload_n 2, 1) := by decide +kernel
theorem dX0_moveColors_69 : decode cX0_moveColors 69 = .ok (.iaload, 1) := by decide +kernel
theorem dX0_moveColors_70 : decode cX0_moveColors 70 = .ok (.iastore, 1) := by decide +kernel
theorem dX0_moveColors_71 : decode cX0_moveColors 71 = .ok (.iinc 1 1, 3) := by decide +kernel
theorem dX0_moveColors_74 : decode cX0_moveColors 74 = .ok (.iinc 2 1, 3) := by decide +kernel
theorem dX0_moveColors_77 : decode cX0_moveColors 77 = .ok (.goto (-55), 3) := by decide +kernel
theorem dX0_moveColors_80 : decode cX0_moveColors 80 = .ok (.iload_n 1, 1) := by decide +kernel
theorem dX0_moveColors_81 : decode cX0_moveColors 81 = .ok (.ireturn, 1) := by decide +kernel
theorem dX1_init_0 : decode cX1_init 0 = .ok (.aload_n 0, 1) := by decide +kernel
theorem dX1_init_1 : decode cX1_init 1 = .ok (.invokespecial 3, 3) := by decide +kernel
theorem dX1_init_4 : decode cX1_init 4 = .ok (.aload_n 0, 1) := by decide +kernel
theorem dX1_init_5 : decode cX1_init 5 = .ok (.sipush 256, 3) := by decide +kernel
theorem dX1_init_8 : decode cX1_init 8 = .ok (.newarray .long, 2) := by decide +kernel
theorem dX1_init_10 : decode cX1_init 10 = .ok (.putfield 9, 3) := by decide +kernel
theorem dX1_init_13 : decode cX1_init 13 = .ok (.aload_n 0, 1) := by decide +kernel
theorem dX1_init_14 : decode cX1_init 14 = .ok (.sipush 256, 3) := by decide +kernel
theorem dX1_init_17 : decode cX1_init 17 = .ok (.newarray .int, 2) := by decide +kernel
theorem dX1_init_19 : decode cX1_init 19 = .ok (.putfield 15, 3) := by decide +kernel
theorem dX1_init_22 : decode cX1_init 22 = .ok (.aload_n 0, 1) := by decide +kernel
theorem dX1_init_23 : decode cX1_init 23 = .ok (.sipush 256, 3) := by decide +kernel
theorem dX1_init_26 : decode cX1_init 26 = .ok (.newarray .int, 2) := by decide +kernel
theorem dX1_init_28 : decode cX1_init 28 = .ok (.putfield 19, 3) := by decide +kernel
theorem dX1_init_31 : decode cX1_init 31 = .ok (.aload_n 0, 1) := by decide +kernel
theorem dX1_init_32 : decode cX1_init 32 = .ok (.iconst 0, 1) := by decide +kernel
theorem dX1_init_33 : decode cX1_init 33 = .ok (.putfield 22, 3) := by decide +kernel
theorem dX1_init_36 : decode cX1_init 36 = .ok (.aload_n 0, 1) := by decide +kernel
theorem dX1_init_37 : decode cX1_init 37 = .ok (.aload_n 1, 1) := by decide +kernel
theorem dX1_init_38 : decode cX1_init 38 = .ok (.putfield 26, 3) := by decide +kernel
theorem dX1_init_41 : decode cX1_init 41 = .ok (.return_, 1) := by decide +kernel
theorem dX1_collect_0 : decode cX1_collect 0 = .ok (.iconst 0, 1) := by decide +kernel
theorem dX1_collect_1 : decode cX1_collect 1 = .ok (.istore_n 1, 1) := by decide +kernel
theorem dX1_collect_2 : decode cX1_collect 2 = .ok (.iconst 0, 1) := by decide +kernel
theorem dX1_collect_3 : decode cX1_collect 3 = .ok (.istore_n 2, 1) := by decide +kernel
theorem dX1_collect_4 : decode cX1_collect 4 = .ok (.iload_n 2, 1) := by decide +kernel
theorem dX1_collect_5 : decode cX1_collect 5 = .ok (.aload_n 0, 1) := by decide +kernel
theorem dX1_collect_6 : decode cX1_collect 6 = .ok (.getfield 26, 3) := by decide +kernel
theorem dX1_collect_9 : decode cX1_collect 9 = .ok (.invokevirtual 30, 3) := by decide +kernel
theorem dX1_collect_12 : decode cX1_collect 12 = .ok (.if_icmp .ge 39, 3) := by decide +kernel
theorem dX1_collect_15 : decode cX1_collect 15 = .ok (.aload_n 0, 1) := by decide +kernel
theorem dX1_collect_16 : decode cX1_collect 16 = .ok (.getfield 26, 3) := by decide +kernel
theorem dX1_collect_19 : decode cX1_collect 19 = .ok (.iload_n 2, 1) := by decide +kernel
theorem dX1_collect_20 : decode cX1_collect 20 = .ok (.invokevirtual 36, 3) := by decide +kernel
theorem dX1_collect_23 : decode cX1_collect 23 = .ok (.ifCond .eq 22, 3) := by decide +kernel
theorem dX1_collect_26 : decode cX1_collect 26 = .ok (.aload_n 0, 1) := by decide +kernel
theorem dX1_collect_27 : decode cX1_collect 27 = .ok (.getfield 9, 3) := by decide +kernel
theorem dX1_collect_30 : decode cX1_collect 30 = .ok (.iload_n 1, 1) := by decide +kernel
theorem dX1_collect_31 : decode cX1_collect 31 = .ok (.aload_n 0, 1) := by decide +kernel
theorem dX1_collect_32 : decode cX1_collect 32 = .ok (.getfield 26, 3) := by decide +kernel
theorem dX1_collect_35 : decode cX1_collect 35 = .ok (.getfield 40, 3) := by decide +kernel
theorem dX1_collect_38 : decode cX1_collect 38 = .ok (.iload_n 2, 1) := by decide +kernel
theorem dX1_collect_39 : decode cX1_collect 39 = .ok (.iaload, 1) := by decide +kernel
theorem dX1_collect_40 : decode cX1_collect 40 = .ok (.i2l, 1) := by decide +kernel
theorem dX1_collect_41 : decode cX1_collect 41 = .ok (.lastore, 1) := by decide +kernel
theorem dX1_collect_42 : decode cX1_collect 42 = .ok (.iinc 1 1, 3) := by decide +kernel
theorem dX1_collect_45 : decode cX1_collect 45 = .ok (.iinc 2 1, 3) := by decide +kernel
theorem dX1_collect_48 : decode cX1_collect 48 = .ok (.goto (-44), 3) := by decide +kernel
theorem dX1_collect_51 : decode cX1_collect 51 = .ok (.aload_n 0, 1) := by decide +kernel
theorem dX1_collect_52 : decode cX1_collect 52 = .ok (.getfield 9, 3) := by decide +kernel
theorem dX1_collect_55 : decode cX1_collect 55 = .ok (.iconst 0, 1) := by decide +kernel
theorem dX1_collect_56 : decode cX1_collect 56 = .ok (.iload_n 1, 1) := by decide +kernel
theorem dX1_collect_57 : decode cX1_collect 57 = .ok (.invokestatic 43, 3) := by decide +kernel
theorem dX1_collect_60 : decode cX1_collect 60 = .ok (.aload_n 0, 1) := by decide +kernel
theorem dX1_collect_61 : decode cX1_collect 61 = .ok (.iconst 0, 1) := by decide +kernel
theorem dX1_collect_62 : decode cX1_collect 62 = .ok (.putfield 22, 3) := by decide +kernel
theorem dX1_collect_65 : decode cX1_collect 65 = .ok (.iconst 0, 1) := by decide +kernel
theorem dX1_collect_66 : decode cX1_collect 66 = .ok (.istore_n 2, 1) := by decide +kernel
theorem dX1_collect_67 : decode cX1_collect 67 = .ok (.iload_n 2, 1) := by decide +kernel
theorem dX1_collect_68 : decode cX1_collect 68 = .ok (.iload_n 1, 1) := by decide +kernel
theorem dX1_collect_69 : decode cX1_collect 69 = .ok (.if_icmp .ge 87, 3) := by decide +kernel
theorem dX1_collect_72 : decode cX1_collect 72 = .ok (.aload_n 0, 1) := by decide +kernel
theorem dX1_collect_73 : decode cX1_collect 73 = .ok (.getfield 9, 3) := by decide +kernel
theorem dX1_collect_76 : decode cX1_collect 76 = .ok (.iload_n 2, 1) := by decide +kernel
theorem dX1_collect_77 : decode cX1_collect 77 = .ok (.laload, 1) := by decide +kernel
theorem dX1_collect_78 : decode cX1_collect 78 = .ok (.l2i, 1) := by decide +kernel
theorem dX1_collect_79 : decode cX1_collect 79 = .ok (.istore_n 3, 1) := by decide +kernel
theorem dX1_collect_80 : decode cX1_collect 80 = .ok (.aload_n 0, 1) := by decide +kernel
theorem dX1_collect_81 : decode cX1_collect 81 = .ok (.getfield 22, 3) := by decide +kernel
theorem dX1_collect_84 : decode cX1_collect 84 = .ok (.ifCond .le 36, 3) := by decide +kernel
theorem dX1_collect_87 : decode cX1_collect 87 = .ok (.aload_n 0, 1) := by decide +kernel
theorem dX1_collect_88 : decode cX1_collect 88 = .ok (.getfield 15, 3) := by decide +kernel
theorem dX1_collect_91 : decode cX1_collect 91 = .ok (.aload_n 0, 1) := by decide +kernel
theorem dX1_collect_92 : decode cX1_collect 92 = .ok (.getfield 22, 3) := by decide +kernel
theorem dX1_collect_95 : decode cX1_collect 95 = .ok (.iconst 1, 1) := by decide +kernel
theorem dX1_collect_96 : decode cX1_collect 96 = .ok (.isub, 1) := by decide +kernel
theorem dX1_collect_97 : decode cX1_collect 97 = .ok (.iaload, 1) := by decide +kernel
theorem dX1_collect_98 : decode cX1_collect 98 = .ok (.iload_n 3, 1) := by decide +kernel
theorem dX1_collect_99 : decode cX1_collect 99 = .ok (.if_icmp .ne 21, 3) := by decide +kernel
theorem dX1_collect_102 : decode cX1_collect 102 = .ok (.aload_n 0, 1) := by decide +kernel
theorem dX1_collect_103 : decode cX1_collect 103 = .ok (.getfield 19, 3) := by decide +kernel
theorem dX1_collect_106 : decode cX1_collect 106 = .ok (.aload_n 0, 1) := by decide +kernel
theorem dX1_collect_107 : decode cX1_collect 107 = .ok (.getfield 22, 3) := by decide +kernel
theorem dX1_collect_110 : decode cX1_collect 110 = .ok (.iconst 1, 1) := by decide +kernel
theorem dX1_collect_111 : decode cX1_collect 111 = .ok (.isub, 1) := by decide +kernel
theorem dX1_collect_112 : decode cX1_collect 112 = .ok (.dup2, 1) := by decide +kernel
theorem dX1_collect_113 : decode cX1_collect 113 = .ok (.iaload, 1) := by decide +kernel
theorem dX1_collect_114 : decode cX1_collect 114 = .ok (.iconst 1, 1) := by decide +kernel
theorem dX1_collect_115 : decode cX1_collect 115 = .ok (.iadd, 1) := by decide +kernel
theorem dX1_collect_116 : decode cX1_collect 116 = .ok (.iastore, 1) := by decide +kernel
theorem dX1_collect_117 : decode cX1_collect 117 = .ok (.goto 33, 3) := by decide +kernel
theorem dX1_collect_120 : decode cX1_collect 120 = .ok (.aload_n 0, 1) := by decide +kernel
theorem dX1_collect_121 : decode cX1_collect 121 = .ok (.getfield 15, 3) := by decide +kernel
theorem dX1_collect_124 : decode cX1_collect 124 = .ok (.aload_n 0, 1) := by decide +kernel
theorem dX1_collect_125 : decode cX1_collect 125 = .ok (.getfield 22, 3) := by decide +kernel
theorem dX1_collect_128 : decode cX1_collect 128 = .ok (.iload_n 3, 1) := by decide +kernel
theorem dX1_collect_129 : decode cX1_collect 129 = .ok (.iastore, 1) := by decide +kernel
theorem dX1_collect_130 : decode cX1_collect 130 = .ok (.aload_n 0, 1) := by decide +kernel
theorem dX1_collect_131 : decode cX1_collect 131 = .ok (.getfield 19, 3) := by decide +kernel
theorem dX1_collect_134 : decode cX1_collect 134 = .ok (.aload_n 0, 1) := by decide +kernel
theorem dX1_collect_135 : decode cX1_collect 135 = .ok (.getfield 22, 3) := by decide +kernel
theorem dX1_collect_138 : decode cX1_collect 138 = .ok (.iconst 1, 1) := by decide +kernel
theorem dX1_collect_139 : decode cX1_collect 139 = .ok (.iastore, 1) := by decide +kernel
theorem dX1_collect_140 : decode cX1_collect 140 = .ok (.aload_n 0, 1) := by decide +kernel
theorem dX1_collect_141 : decode cX1_collect 141 = .ok (.dup, 1) := by decide +kernel
theorem dX1_collect_142 : decode cX1_collect 142 = .ok (.getfield 22, 3) := by decide +kernel
theorem dX1_collect_145 : decode cX1_collect 145 = .ok (.iconst 1, 1) := by decide +kernel
theorem dX1_collect_146 : decode cX1_collect 146 = .ok (.iadd, 1) := by decide +kernel
theorem dX1_collect_147 : decode cX1_collect 147 = .ok (.putfield 22, 3) := by decide +kernel
theorem dX1_collect_150 : decode cX1_collect 150 = .ok (.iinc 2 1, 3) := by decide +kernel
theorem dX1_collect_153 : decode cX1_collect 153 = .ok (.goto (-86), 3) := by decide +kernel
theorem dX1_collect_156 : decode cX1_collect 156 = .ok (.return_, 1) := by decide +kernel
theorem dX1_rank_0 : decode cX1_rank 0 = .ok (.iconst 0, 1) := by decide +kernel
theorem dX1_rank_1 : decode cX1_rank 1 = .ok (.istore_n 1, 1) := by decide +kernel
theorem dX1_rank_2 : decode cX1_rank 2 = .ok (.iload_n 1, 1) := by decide +kernel
theorem dX1_rank_3 : decode cX1_rank 3 = .ok (.aload_n 0, 1) := by decide +kernel
theorem dX1_rank_4 : decode cX1_rank 4 = .ok (.getfield 22, 3) := by decide +kernel
theorem dX1_rank_7 : decode cX1_rank 7 = .ok (.if_icmp .ge 38, 3) := by decide +kernel
theorem dX1_rank_10 : decode cX1_rank 10 = .ok (.aload_n 0, 1) := by decide +kernel
theorem dX1_rank_11 : decode cX1_rank 11 = .ok (.getfield 9, 3) := by decide +kernel
theorem dX1_rank_14 : decode cX1_rank 14 = .ok (.iload_n 1, 1) := by decide +kernel
theorem dX1_rank_15 : decode cX1_rank 15 = .ok (.sipush 256, 3) := by decide +kernel
theorem dX1_rank_18 : decode cX1_rank 18 = .ok (.aload_n 0, 1) := by decide +kernel
theorem dX1_rank_19 : decode cX1_rank 19 = .ok (.getfield 19, 3) := by decide +kernel
theorem dX1_rank_22 : decode cX1_rank 22 = .ok (.iload_n 1, 1) := by decide +kernel
theorem dX1_rank_23 : decode cX1_rank 23 = .ok (.iaload, 1) := by decide +kernel
theorem dX1_rank_24 : decode cX1_rank 24 = .ok (.isub, 1) := by decide +kernel
theorem dX1_rank_25 : decode cX1_rank 25 = .ok (.i2l, 1) := by decide +kernel
theorem dX1_rank_26 : decode cX1_rank 26 = .ok (.ldc2_w 47, 3) := by decide +kernel
theorem dX1_rank_29 : decode cX1_rank 29 = .ok (.lmul, 1) := by decide +kernel
theorem dX1_rank_30 : decode cX1_rank 30 = .ok (.aload_n 0, 1) := by decide +kernel
theorem dX1_rank_31 : decode cX1_rank 31 = .ok (.getfield 15, 3) := by decide +kernel
theorem dX1_rank_34 : decode cX1_rank 34 = .ok (.iload_n 1, 1) := by decide +kernel
theorem dX1_rank_35 : decode cX1_rank 35 = .ok (.iaload, 1) := by decide +kernel
theorem dX1_rank_36 : decode cX1_rank 36 = .ok (.i2l, 1) := by decide +kernel
theorem dX1_rank_37 : decode cX1_rank 37 = .ok (.ladd, 1) := by decide +kernel
theorem dX1_rank_38 : decode cX1_rank 38 = .ok (.lastore, 1) := by decide +kernel
theorem dX1_rank_39 : decode cX1_rank 39 = .ok (.iinc 1 1, 3) := by decide +kernel
theorem dX1_rank_42 : decode cX1_rank 42 = .ok (.goto (-40), 3) := by decide +kernel
theorem dX1_rank_45 : decode cX1_rank 45 = .ok (.aload_n 0, 1) := by decide +kernel
theorem dX1_rank_46 : decode cX1_rank 46 = .ok (.getfield 9, 3) := by decide +kernel
theorem dX1_rank_49 : decode cX1_rank 49 = .ok (.iconst 0, 1) := by decide +kernel
theorem dX1_rank_50 : decode cX1_rank 50 = .ok (.aload_n 0, 1) := by decide +kernel
theorem dX1_rank_51 : decode cX1_rank 51 = .ok (.getfield 22, 3) := by decide +kernel
theorem dX1_rank_54 : decode cX1_rank 54 = .ok (.invokestatic 43, 3) := by decide +kernel
theorem dX1_rank_57 : decode cX1_rank 57 = .ok (.return_, 1) := by decide +kernel
theorem dX1_rankedColor_0 : decode cX1_rankedColor 0 = .ok (.iload_n 1, 1) := by decide +kernel
theorem dX1_rankedColor_1 : decode cX1_rankedColor 1 = .ok (.ifCond .lt 25, 3) := by decide +kernel
theorem dX1_rankedColor_4 : decode cX1_rankedColor 4 = .ok (.iload_n 1, 1) := by decide +kernel
theorem dX1_rankedColor_5 : decode cX1_rankedColor 5 = .ok (.aload_n 0, 1) := by decide +kernel
theorem dX1_rankedColor_6 : decode cX1_rankedColor 6 = .ok (.getfield 22, 3) := by decide +kernel
theorem dX1_rankedColor_9 : decode cX1_rankedColor 9 = .ok (.if_icmp .ge 17, 3) := by decide +kernel
theorem dX1_rankedColor_12 : decode cX1_rankedColor 12 = .ok (.aload_n 0, 1) := by decide +kernel
theorem dX1_rankedColor_13 : decode cX1_rankedColor 13 = .ok (.getfield 9, 3) := by decide +kernel
theorem dX1_rankedColor_16 : decode cX1_rankedColor 16 = .ok (.iload_n 1, 1) := by decide +kernel
theorem dX1_rankedColor_17 : decode cX1_rankedColor 17 = .ok (.laload, 1) := by decide +kernel
theorem dX1_rankedColor_18 : decode cX1_rankedColor 18 = .ok (.ldc2_w 47, 3) := by decide +kernel
theorem dX1_rankedColor_21 : decode cX1_rankedColor 21 = .ok (.lrem, 1) := by decide +kernel
theorem dX1_rankedColor_22 : decode cX1_rankedColor 22 = .ok (.l2i, 1) := by decide +kernel
theorem dX1_rankedColor_23 : decode cX1_rankedColor 23 = .ok (.goto 4, 3) := by decide +kernel
theorem dX1_rankedColor_26 : decode cX1_rankedColor 26 = .ok (.iconst (-1), 1) := by decide +kernel
theorem dX1_rankedColor_27 : decode cX1_rankedColor 27 = .ok (.ireturn, 1) := by decide +kernel
theorem dX1_rankedNumber_0 : decode cX1_rankedNumber 0 = .ok (.iload_n 1, 1) := by decide +kernel
theorem dX1_rankedNumber_1 : decode cX1_rankedNumber 1 = .ok (.ifCond .lt 29, 3) := by decide +kernel
theorem dX1_rankedNumber_4 : decode cX1_rankedNumber 4 = .ok (.iload_n 1, 1) := by decide +kernel
theorem dX1_rankedNumber_5 : decode cX1_rankedNumber 5 = .ok (.aload_n 0, 1) := by decide +kernel
theorem dX1_rankedNumber_6 : decode cX1_rankedNumber 6 = .ok (.getfield 22, 3) := by decide +kernel
theorem dX1_rankedNumber_9 : decode cX1_rankedNumber 9 = .ok (.if_icmp .ge 21, 3) := by decide +kernel
theorem dX1_rankedNumber_12 : decode cX1_rankedNumber 12 = .ok (.sipush 256, 3) := by decide +kernel
theorem dX1_rankedNumber_15 : decode cX1_rankedNumber 15 = .ok (.aload_n 0, 1) := by decide +kernel
theorem dX1_rankedNumber_16 : decode cX1_rankedNumber 16 = .ok (.getfield 9, 3) := by decide +kernel
theorem dX1_rankedNumber_19 : decode cX1_rankedNumber 19 = .ok (.iload_n 1, 1) := by decide +kernel
theorem dX1_rankedNumber_20 : decode cX1_rankedNumber 20 = .ok (.laload, 1) := by decide +kernel
theorem dX1_rankedNumber_21 : decode cX1_rankedNumber 21 = .ok (.ldc2_w 47, 3) := by decide +kernel
theorem dX1_rankedNumber_24 : decode cX1_rankedNumber 24 = .ok (.ldiv, 1) := by decide +kernel
theorem dX1_rankedNumber_25 : decode cX1_rankedNumber 25 = .ok (.l2i, 1) := by decide +kernel
theorem dX1_rankedNumber_26 : decode cX1_rankedNumber 26 = .ok (.isub, 1) := by decide +kernel
theorem dX1_rankedNumber_27 : decode cX1_rankedNumber 27 = .ok (.goto 4, 3) := by decide +kernel
theorem dX1_rankedNumber_30 : decode cX1_rankedNumber 30 = .ok (.iconst (-1), 1) := by decide +kernel
theorem dX1_rankedNumber_31 : decode cX1_rankedNumber 31 = .ok (.ireturn, 1) := by decide +kernel
theorem dX2_init_0 : decode cX2_init 0 = .ok (.aload_n 0, 1) := by decide +kernel
theorem dX2_init_1 : decode cX2_init 1 = .ok (.invokespecial 1, 3) := by decide +kernel
theorem dX2_init_4 : decode cX2_init 4 = .ok (.aload_n 0, 1) := by decide +kernel
theorem dX2_init_5 : decode cX2_init 5 = .ok (.bipush 10, 2) := by decide +kernel
theorem dX2_init_7 : decode cX2_init 7 = .ok (.anewarray 9, 3) := by decide +kernel
theorem dX2_init_10 : decode cX2_init 10 = .ok (.putfield 11, 3) := by decide +kernel
theorem dX2_init_13 : decode cX2_init 13 = .ok (.aload_n 0, 1) := by decide +kernel
theorem dX2_init_14 : decode cX2_init 14 = .ok (.iconst 0, 1) := by decide +kernel
theorem dX2_init_15 : decode cX2_init 15 = .ok (.putfield 15, 3) := by decide +kernel
theorem dX2_init_18 : decode cX2_init 18 = .ok (.aload_n 0, 1) := by decide +kernel
theorem dX2_init_19 : decode cX2_init 19 = .ok (.iconst 0, 1) := by decide +kernel
theorem dX2_init_20 : decode cX2_init 20 = .ok (.putfield 19, 3) := by decide +kernel
theorem dX2_init_23 : decode cX2_init 23 = .ok (.iconst 0, 1) := by decide +kernel
theorem dX2_init_24 : decode cX2_init 24 = .ok (.istore_n 1, 1) := by decide +kernel
theorem dX2_init_25 : decode cX2_init 25 = .ok (.iload_n 1, 1) := by decide +kernel
theorem dX2_init_26 : decode cX2_init 26 = .ok (.bipush 10, 2) := by decide +kernel
theorem dX2_init_28 : decode cX2_init 28 = .ok (.if_icmp .ge 22, 3) := by decide +kernel
theorem dX2_init_31 : decode cX2_init 31 = .ok (.aload_n 0, 1) := by decide +kernel
theorem dX2_init_32 : decode cX2_init 32 = .ok (.getfield 11, 3) := by decide +kernel
theorem dX2_init_35 : decode cX2_init 35 = .ok (.iload_n 1, 1) := by decide +kernel
theorem dX2_init_36 : decode cX2_init 36 = .ok (.new 9, 3) := by decide +kernel
theorem dX2_init_39 : decode cX2_init 39 = .ok (.dup, 1) := by decide +kernel
theorem dX2_init_40 : decode cX2_init 40 = .ok (.invokespecial 22, 3) := by decide +kernel
theorem dX2_init_43 : decode cX2_init 43 = .ok (.aastore, 1) := by decide +kernel
theorem dX2_init_44 : decode cX2_init 44 = .ok (.iinc 1 1, 3) := by decide +kernel
theorem dX2_init_47 : decode cX2_init 47 = .ok (.goto (-22), 3) := by decide +kernel
theorem dX2_init_50 : decode cX2_init 50 = .ok (.return_, 1) := by decide +kernel
theorem dX2_record_0 : decode cX2_record 0 = .ok (.aload_n 0, 1) := by decide +kernel
theorem dX2_record_1 : decode cX2_record 1 = .ok (.getfield 11, 3) := by decide +kernel
theorem dX2_record_4 : decode cX2_record 4 = .ok (.aload_n 0, 1) := by decide +kernel
theorem dX2_record_5 : decode cX2_record 5 = .ok (.getfield 15, 3) := by decide +kernel
theorem dX2_record_8 : decode cX2_record 8 = .ok (.aload_n 0, 1) := by decide +kernel
theorem dX2_record_9 : decode cX2_record 9 = .ok (.getfield 19, 3) := by decide +kernel
theorem dX2_record_12 : decode cX2_record 12 = .ok (.iadd, 1) := by decide +kernel
theorem dX2_record_13 : decode cX2_record 13 = .ok (.bipush 10, 2) := by decide +kernel
theorem dX2_record_15 : decode cX2_record 15 = .ok (.irem, 1) := by decide +kernel
theorem dX2_record_16 : decode cX2_record 16 = .ok (.aaload, 1) := by decide +kernel
theorem dX2_record_17 : decode cX2_record 17 = .ok (.aload_n 1, 1) := by decide +kernel
theorem dX2_record_18 : decode cX2_record 18 = .ok (.invokevirtual 23, 3) := by decide +kernel
theorem dX2_record_21 : decode cX2_record 21 = .ok (.aload_n 0, 1) := by decide +kernel
theorem dX2_record_22 : decode cX2_record 22 = .ok (.getfield 19, 3) := by decide +kernel
theorem dX2_record_25 : decode cX2_record 25 = .ok (.bipush 10, 2) := by decide +kernel
theorem dX2_record_27 : decode cX2_record 27 = .ok (.if_icmp .ge 16, 3) := by decide +kernel
theorem dX2_record_30 : decode cX2_record 30 = .ok (.aload_n 0, 1) := by decide +kernel
theorem dX2_record_31 : decode cX2_record 31 = .ok (.dup, 1) := by decide +kernel
theorem dX2_record_32 : decode cX2_record 32 = .ok (.getfield 19, 3) := by decide +kernel
theorem dX2_record_35 : decode cX2_record 35 = .ok (.iconst 1, 1) := by decide +kernel
theorem dX2_record_36 : decode cX2_record 36 = .ok (.iadd, 1) := by decide +kernel
theorem dX2_record_37 : decode cX2_record 37 = .ok (.putfield 19, 3) := by decide +kernel
theorem dX2_record_40 : decode cX2_record 40 = .ok (.goto 16, 3) := by decide +kernel
theorem dX2_record_43 : decode cX2_record 43 = .ok (.aload_n 0, 1) := by decide +kernel
theorem dX2_record_44 : decode cX2_record 44 = .ok (.aload_n 0, 1) := by decide +kernel
theorem dX2_record_45 : decode cX2_record 45 = .ok (.getfield 15, 3) := by decide +kernel
theorem dX2_record_48 : decode cX2_record 48 = .ok (.iconst 1, 1) := by decide +kernel
theorem dX2_record_49 : decode cX2_record 49 = .ok (.iadd, 1) := by decide +kernel
theorem dX2_record_50 : decode cX2_record 50 = .ok (.bipush 10, 2) := by decide +kernel
theorem dX2_record_52 : decode cX2_record 52 = .ok (.irem, 1) := by decide +kernel
theorem dX2_record_53 : decode cX2_record 53 = .ok (.putfield 15, 3) := by decide +kernel
theorem dX2_record_56 : decode cX2_record 56 = .ok (.return_, 1) := by decide +kernel
theorem dX2_restore_0 : decode cX2_restore 0 = .ok (.aload_n 0, 1) := by decide +kernel
theorem dX2_restore_1 : decode cX2_restore 1 = .ok (.getfield 19, 3) := by decide +kernel
theorem dX2_restore_4 : decode cX2_restore 4 = .ok (.ifCond .ne 5, 3) := by decide +kernel
theorem dX2_restore_7 : decode cX2_restore 7 = .ok (.iconst 0, 1) := by decide +kernel
theorem dX2_restore_8 : decode cX2_restore 8 = .ok (.ireturn, 1) := by decide +kernel
theorem dX2_restore_9 : decode cX2_restore 9 = .ok (.aload_n 0, 1) := by decide +kernel
theorem dX2_restore_10 : decode cX2_restore 10 = .ok (.dup, 1) := by decide +kernel
theorem dX2_restore_11 : decode cX2_restore 11 = .ok (.getfield 19, 3) := by decide +kernel
theorem dX2_restore_14 : decode cX2_restore 14 = .ok (.iconst 1, 1) := by decide +kernel
theorem dX2_restore_15 : decode cX2_restore 15 = .ok (.isub, 1) := by decide +kernel
theorem dX2_restore_16 : decode cX2_restore 16 = .ok (.putfield 19, 3) := by decide +kernel
theorem dX2_restore_19 : decode cX2_restore 19 = .ok (.aload_n 1, 1) := by decide +kernel
theorem dX2_restore_20 : decode cX2_restore 20 = .ok (.aload_n 0, 1) := by decide +kernel
theorem dX2_restore_21 : decode cX2_restore 21 = .ok (.getfield 11, 3) := by decide +kernel
theorem dX2_restore_24 : decode cX2_restore 24 = .ok (.aload_n 0, 1) := by decide +kernel
theorem dX2_restore_25 : decode cX2_restore 25 = .ok (.getfield 15, 3) := by decide +kernel
theorem dX2_restore_28 : decode cX2_restore 28 = .ok (.aload_n 0, 1) := by decide +kernel
theorem dX2_restore_29 : decode cX2_restore 29 = .ok (.getfield 19, 3) := by decide +kernel
theorem dX2_restore_32 : decode cX2_restore 32 = .ok (.iadd, 1) := by decide +kernel
theorem dX2_restore_33 : decode cX2_restore 33 = .ok (.bipush 10, 2) := by decide +kernel
theorem dX2_restore_35 : decode cX2_restore 35 = .ok (.irem, 1) := by decide +kernel
theorem dX2_restore_36 : decode cX2_restore 36 = .ok (.aaload, 1) := by decide +kernel
theorem dX2_restore_37 : decode cX2_restore 37 = .ok (.invokevirtual 23, 3) := by decide +kernel
theorem dX2_restore_40 : decode cX2_restore 40 = .ok (.iconst 1, 1) := by decide +kernel
theorem dX2_restore_41 : decode cX2_restore 41 = .ok (.ireturn, 1) := by decide +kernel
theorem dX3_init_0 : decode cX3_init 0 = .ok (.aload_n 0, 1) := by decide +kernel
theorem dX3_init_1 : decode cX3_init 1 = .ok (.invokespecial 3, 3) := by decide +kernel
theorem dX3_init_4 : decode cX3_init 4 = .ok (.aload_n 0, 1) := by decide +kernel
theorem dX3_init_5 : decode cX3_init 5 = .ok (.sipush 768, 3) := by decide +kernel
theorem dX3_init_8 : decode cX3_init 8 = .ok (.newarray .int, 2) := by decide +kernel
theorem dX3_init_10 : decode cX3_init 10 = .ok (.putfield 9, 3) := by decide +kernel
theorem dX3_init_13 : decode cX3_init 13 = .ok (.aload_n 0, 1) := by decide +kernel
theorem dX3_init_14 : decode cX3_init 14 = .ok (.aload_n 1, 1) := by decide +kernel
theorem dX3_init_15 : decode cX3_init 15 = .ok (.putfield 15, 3) := by decide +kernel
theorem dX3_init_18 : decode cX3_init 18 = .ok (.return_, 1) := by decide +kernel
theorem dX3_assign_0 : decode cX3_assign 0 = .ok (.iconst 0, 1) := by decide +kernel
theorem dX3_assign_1 : decode cX3_assign 1 = .ok (.istore_n 2, 1) := by decide +kernel
theorem dX3_assign_2 : decode cX3_assign 2 = .ok (.iload_n 2, 1) := by decide +kernel
theorem dX3_assign_3 : decode cX3_assign 3 = .ok (.aload_n 0, 1) := by decide +kernel
theorem dX3_assign_4 : decode cX3_assign 4 = .ok (.getfield 15, 3) := by decide +kernel
theorem dX3_assign_7 : decode cX3_assign 7 = .ok (.getfield 19, 3) := by decide +kernel
theorem dX3_assign_10 : decode cX3_assign 10 = .ok (.if_icmp .ge 118, 3) := by decide +kernel
theorem dX3_assign_13 : decode cX3_assign 13 = .ok (.iconst 0, 1) := by decide +kernel
theorem dX3_assign_14 : decode cX3_assign 14 = .ok (.istore_n 3, 1) := by decide +kernel
theorem dX3_assign_15 : decode cX3_assign 15 = .ok (.iload_n 3, 1) := by decide +kernel
theorem dX3_assign_16 : decode cX3_assign 16 = .ok (.aload_n 0, 1) := by decide +kernel
theorem dX3_assign_17 : decode cX3_assign 17 = .ok (.getfield 15, 3) := by decide +kernel
theorem dX3_assign_20 : decode cX3_assign 20 = .ok (.getfield 25, 3) := by decide +kernel
theorem dX3_assign_23 : decode cX3_assign 23 = .ok (.if_icmp .ge 99, 3) := by decide +kernel
theorem dX3_assign_26 : decode cX3_assign 26 = .ok (.aload_n 0, 1) := by decide +kernel
theorem dX3_assign_27 : decode cX3_assign 27 = .ok (.getfield 15, 3) := by decide +kernel
theorem dX3_assign_30 : decode cX3_assign 30 = .ok (.iload_n 3, 1) := by decide +kernel
theorem dX3_assign_31 : decode cX3_assign 31 = .ok (.iload_n 2, 1) := by decide +kernel
theorem dX3_assign_32 : decode cX3_assign 32 = .ok (.invokevirtual 28, 3) := by decide +kernel
theorem dX3_assign_35 : decode cX3_assign 35 = .ok (.istore 4, 2) := by decide +kernel
theorem dX3_assign_37 : decode cX3_assign 37 = .ok (.iconst 2, 1) := by decide +kernel
theorem dX3_assign_38 : decode cX3_assign 38 = .ok (.getstatic 32, 3) := by decide +kernel
theorem dX3_assign_41 : decode cX3_assign 41 = .ok (.iconst 4, 1) := by decide +kernel
theorem dX3_assign_42 : decode cX3_assign 42 = .ok (.iload_n 2, 1) := by decide +kernel
theorem dX3_assign_43 : decode cX3_assign 43 = .ok (.iconst 3, 1) := by decide +kernel
theorem dX3_assign_44 : decode cX3_assign 44 = .ok (.iand, 1) := by decide +kernel
theorem dX3_assign_45 : decode cX3_assign 45 = .ok (.imul, 1) := by decide +kernel
theorem dX3_assign_46 : decode cX3_assign 46 = .ok (.iload_n 3, 1) := by decide +kernel
theorem dX3_assign_47 : decode cX3_assign 47 = .ok (.iconst 3, 1) := by decide +kernel
theorem dX3_assign_48 : decode cX3_assign 48 = .ok (.iand, 1) := by decide +kernel
theorem dX3_assign_49 : decode cX3_assign 49 = .ok (.iadd, 1) := by decide +kernel
theorem dX3_assign_50 : decode cX3_assign 50 = .ok (.iaload, 1) := by decide +kernel
theorem dX3_assign_51 : decode cX3_assign 51 = .ok (.imul, 1) := by decide +kernel
theorem dX3_assign_52 : decode cX3_assign 52 = .ok (.bipush 15, 2) := by decide +kernel
theorem dX3_assign_54 : decode cX3_assign 54 = .ok (.isub, 1) := by decide +kernel
theorem dX3_assign_55 : decode cX3_assign 55 = .ok (.iload_n 1, 1) := by decide +kernel
theorem dX3_assign_56 : decode cX3_assign 56 = .ok (.imul, 1) := by decide +kernel
theorem dX3_assign_57 : decode cX3_assign 57 = .ok (.bipush 16, 2) := by decide +kernel
theorem dX3_assign_59 : decode cX3_assign 59 = .ok (.idiv, 1) := by decide +kernel
theorem dX3_assign_60 : decode cX3_assign 60 = .ok (.istore 5, 2) := by decide +kernel
theorem dX3_assign_62 : decode cX3_assign 62 = .ok (.aload_n 0, 1) := by decide +kernel
theorem dX3_assign_63 : decode cX3_assign 63 = .ok (.getfield 15, 3) := by decide +kernel
theorem dX3_assign_66 : decode cX3_assign 66 = .ok (.getfield 35, 3) := by decide +kernel
theorem dX3_assign_69 : decode cX3_assign 69 = .ok (.iload 4, 2) := by decide +kernel
theorem dX3_assign_71 : decode cX3_assign 71 = .ok (.aload_n 0, 1) := by decide +kernel
theorem dX3_assign_72 : decode cX3_assign 72 = .ok (.getfield 15, 3) := by decide +kernel
theorem dX3_assign_75 : decode cX3_assign 75 = .ok (.iload 4, 2) := by decide +kernel
theorem dX3_assign_77 : decode cX3_assign 77 = .ok (.invokevirtual 38, 3) := by decide +kernel
theorem dX3_assign_80 : decode cX3_assign 80 = .ok (.ifCond .eq 28, 3) := by decide +kernel
theorem dX3_assign_83 : decode cX3_assign 83 = .ok (.aload_n 0, 1) := by decide +kernel
theorem dX3_assign_84 : decode cX3_assign 84 = .ok (.getfield 15, 3) := by decide +kernel
theorem dX3_assign_87 : decode cX3_assign 87 = .ok (.aload_n 0, 1) := by decide +kernel
theorem dX3_assign_88 : decode cX3_assign 88 = .ok (.getfield 15, 3) := by decide +kernel
theorem dX3_assign_91 : decode cX3_assign 91 = .ok (.getfield 42, 3) := by decide +kernel
theorem dX3_assign_94 : decode cX3_assign 94 = .ok (.iload 4, 2) := by decide +kernel
theorem dX3_assign_96 : decode cX3_assign 96 = .ok (.iaload, 1) := by decide +kernel
theorem dX3_assign_97 : decode cX3_assign 97 = .ok (.iload 5, 2) := by decide +kernel
theorem dX3_assign_99 : decode cX3_assign 99 = .ok (.invokestatic 45, 3) := by decide +kernel
theorem dX3_assign_102 : decode cX3_assign 102 = .ok (.invokevirtual 48, 3) := by decide +kernel
theorem dX3_assign_105 : decode cX3_assign 105 = .ok (.goto 10, 3) := by decide +kernel
theorem dX3_assign_108 : decode cX3_assign 108 = .ok (.aload_n 0, 1) := by decide +kernel
theorem dX3_assign_109 : decode cX3_assign 109 = .ok (.getfield 15, 3) := by decide +kernel
theorem dX3_assign_112 : decode cX3_assign 112 = .ok (.getfield 52, 3) := by decide +kernel
theorem dX3_assign_115 : decode cX3_assign 115 = .ok (.iastore, 1) := by decide +kernel
theorem dX3_assign_116 : decode cX3_assign 116 = .ok (.iinc 3 1, 3) := by decide +kernel
theorem dX3_assign_119 : decode cX3_assign 119 = .ok (.goto (-104), 3) := by decide +kernel
theorem dX3_assign_122 : decode cX3_assign 122 = .ok (.iinc 2 1, 3) := by decide +kernel
theorem dX3_assign_125 : decode cX3_assign 125 = .ok (.goto (-123), 3) := by decide +kernel
theorem dX3_assign_128 : decode cX3_assign 128 = .ok (.return_, 1) := by decide +kernel
theorem dX3_shifted_0 : decode cX3_shifted 0 = .ok (.iload_n 0, 1) := by decide +kernel
theorem dX3_shifted_1 : decode cX3_shifted 1 = .ok (.iconst 0, 1) := by decide +kernel
theorem dX3_shifted_2 : decode cX3_shifted 2 = .ok (.invokestatic 55, 3) := by decide +kernel
theorem dX3_shifted_5 : decode cX3_shifted 5 = .ok (.iload_n 1, 1) := by decide +kernel
theorem dX3_shifted_6 : decode cX3_shifted 6 = .ok (.iadd, 1) := by decide +kernel
theorem dX3_shifted_7 : decode cX3_shifted 7 = .ok (.invokestatic 58, 3) := by decide +kernel
theorem dX3_shifted_10 : decode cX3_shifted 10 = .ok (.iload_n 0, 1) := by decide +kernel
theorem dX3_shifted_11 : decode cX3_shifted 11 = .ok (.iconst 1, 1) := by decide +kernel
theorem dX3_shifted_12 : decode cX3_shifted 12 = .ok (.invokestatic 55, 3) := by decide +kernel
theorem dX3_shifted_15 : decode cX3_shifted 15 = .ok (.iload_n 1, 1) := by decide +kernel
theorem dX3_shifted_16 : decode cX3_shifted 16 = .ok (.iadd, 1) := by decide +kernel
theorem dX3_shifted_17 : decode cX3_shifted 17 = .ok (.invokestatic 58, 3) := by decide +kernel
theorem dX3_shifted_20 : decode cX3_shifted 20 = .ok (.iload_n 0, 1) := by decide +kernel
theorem dX3_shifted_21 : decode cX3_shifted 21 = .ok (.iconst 2, 1) := by decide +kernel
theorem dX3_shifted_22 : decode cX3_shifted 22 = .ok (.invokestatic 55, 3) := by decide +kernel
theorem dX3_shifted_25 : decode cX3_shifted 25 = .ok (.iload_n 1, 1) := by decide +kernel
theorem dX3_shifted_26 : decode cX3_shifted 26 = .ok (.iadd, 1) := by decide +kernel
theorem dX3_shifted_27 : decode cX3_shifted 27 = .ok (.invokestatic 58, 3) := by decide +kernel
theorem dX3_shifted_30 : decode cX3_shifted 30 = .ok (.invokestatic 61, 3) := by decide +kernel
theorem dX3_shifted_33 : decode cX3_shifted 33 = .ok (.ireturn, 1) := by decide +kernel
theorem dX3_diffuse_0 : decode cX3_diffuse 0 = .ok (.iconst 0, 1) := by decide +kernel
theorem dX3_diffuse_1 : decode cX3_diffuse 1 = .ok (.istore_n 2, 1) := by decide +kernel
theorem dX3_diffuse_2 : decode cX3_diffuse 2 = .ok (.iload_n 2, 1) := by decide +kernel
theorem dX3_diffuse_3 : decode cX3_diffuse 3 = .ok (.aload_n 0, 1) := by decide +kernel
theorem dX3_diffuse_4 : decode cX3_diffuse 4 = .ok (.getfield 15, 3) := by decide +kernel
theorem dX3_diffuse_7 : decode cX3_diffuse 7 = .ok (.invokevirtual 65, 3) := by decide +kernel
theorem dX3_diffuse_10 : decode cX3_diffuse 10 = .ok (.if_icmp .ge 48, 3) := by decide +kernel
theorem dX3_diffuse_13 : decode cX3_diffuse 13 = .ok (.iconst 0, 1) := by decide +kernel
theorem dX3_diffuse_14 : decode cX3_diffuse 14 = .ok (.istore_n 3, 1) := by decide +kernel
theorem dX3_diffuse_15 : decode cX3_diffuse 15 = .ok (.iload_n 3, 1) := by decide +kernel
theorem dX3_diffuse_16 : decode cX3_diffuse 16 = .ok (.iconst 3, 1) := by decide +kernel
theorem dX3_diffuse_17 : decode cX3_diffuse 17 = .ok (.if_icmp .ge 35, 3) := by decide +kernel
theorem dX3_diffuse_20 : decode cX3_diffuse 20 = .ok (.aload_n 0, 1) := by decide +kernel
theorem dX3_diffuse_21 : decode cX3_diffuse 21 = .ok (.getfield 9, 3) := by decide +kernel
theorem dX3_diffuse_24 : decode cX3_diffuse 24 = .ok (.iconst 3, 1) := by decide +kernel
theorem dX3_diffuse_25 : decode cX3_diffuse 25 = .ok (.iload_n 2, 1) := by decide +kernel
theorem dX3_diffuse_26 : decode cX3_diffuse 26 = .ok (.imul, 1) := by decide +kernel
theorem dX3_diffuse_27 : decode cX3_diffuse 27 = .ok (.iload_n 3, 1) := by decide +kernel
theorem dX3_diffuse_28 : decode cX3_diffuse 28 = .ok (.iadd, 1) := by decide +kernel
theorem dX3_diffuse_29 : decode cX3_diffuse 29 = .ok (.bipush 16, 2) := by decide +kernel
theorem dX3_diffuse_31 : decode cX3_diffuse 31 = .ok (.aload_n 0, 1) := by decide +kernel
theorem dX3_diffuse_32 : decode cX3_diffuse 32 = .ok (.getfield 15, 3) := by decide +kernel
theorem dX3_diffuse_35 : decode cX3_diffuse 35 = .ok (.getfield 42, 3) := by decide +kernel
theorem dX3_diffuse_38 : decode cX3_diffuse 38 = .ok (.iload_n 2, 1) := by decide +kernel
theorem dX3_diffuse_39 : decode cX3_diffuse 39 = .ok (.iaload, 1) := by decide +kernel
theorem dX3_diffuse_40 : decode cX3_diffuse 40 = .ok (.iload_n 3, 1) := by decide +kernel
theorem dX3_diffuse_41 : decode cX3_diffuse 41 = .ok (.invokestatic 55, 3) := by decide +kernel
theorem dX3_diffuse_44 : decode cX3_diffuse 44 = .ok (.imul, 1) := by decide +kernel
theorem dX3_diffuse_45 : decode cX3_diffuse 45 = .ok (.iastore, 1) := by decide +kernel
theorem dX3_diffuse_46 : decode cX3_diffuse 46 = .ok (.iinc 3 1, 3) := by decide +kernel
theorem dX3_diffuse_49 : decode cX3_diffuse 49 = .ok (.goto (-34), 3) := by decide +kernel
theorem dX3_diffuse_52 : decode cX3_diffuse 52 = .ok (.iinc 2 1, 3) := by decide +kernel
theorem dX3_diffuse_55 : decode cX3_diffuse 55 = .ok (.goto (-53), 3) := by decide +kernel
theorem dX3_diffuse_58 : decode cX3_diffuse 58 = .ok (.iconst 0, 1) := by decide +kernel
theorem dX3_diffuse_59 : decode cX3_diffuse 59 = .ok (.istore_n 2, 1) := by decide +kernel
theorem dX3_diffuse_60 : decode cX3_diffuse 60 = .ok (.iload_n 2, 1) := by decide +kernel
theorem dX3_diffuse_61 : decode cX3_diffuse 61 = .ok (.aload_n 0, 1) := by decide +kernel
theorem dX3_diffuse_62 : decode cX3_diffuse 62 = .ok (.getfield 15, 3) := by decide +kernel
theorem dX3_diffuse_65 : decode cX3_diffuse 65 = .ok (.getfield 19, 3) := by decide +kernel
theorem dX3_diffuse_68 : decode cX3_diffuse 68 = .ok (.if_icmp .ge 78, 3) := by decide +kernel
theorem dX3_diffuse_71 : decode cX3_diffuse 71 = .ok (.iload_n 2, 1) := by decide +kernel
theorem dX3_diffuse_72 : decode cX3_diffuse 72 = .ok (.iconst 1, 1) := by decide +kernel
theorem dX3_diffuse_73 : decode cX3_diffuse 73 = .ok (.iand, 1) := by decide +kernel
theorem dX3_diffuse_74 : decode cX3_diffuse 74 = .ok (.ifCond .ne 7, 3) := by decide +kernel
theorem dX3_diffuse_77 : decode cX3_diffuse 77 = .ok (.iconst 1, 1) := by decide +kernel
theorem dX3_diffuse_78 : decode cX3_diffuse 78 = .ok (.goto 4, 3) := by decide +kernel
theorem dX3_diffuse_81 : decode cX3_diffuse 81 = .ok (.iconst 0, 1) := by decide +kernel
theorem dX3_diffuse_82 : decode cX3_diffuse 82 = .ok (.istore_n 3, 1) := by decide +kernel
theorem dX3_diffuse_83 : decode cX3_diffuse 83 = .ok (.iconst 0, 1) := by decide +kernel
theorem dX3_diffuse_84 : decode cX3_diffuse 84 = .ok (.istore 4, 2) := by decide +kernel
theorem dX3_diffuse_86 : decode cX3_diffuse 86 = .ok (.iload 4, 2) := by decide +kernel
theorem dX3_diffuse_88 : decode cX3_diffuse 88 = .ok (.aload_n 0, 1) := by decide +kernel
theorem dX3_diffuse_89 : decode cX3_diffuse 89 = .ok (.getfield 15, 3) := by decide +kernel
theorem dX3_diffuse_92 : decode cX3_diffuse 92 = .ok (.getfield 25, 3) := by decide +kernel
theorem dX3_diffuse_95 : decode cX3_diffuse 95 = .ok (.if_icmp .ge 45, 3) := by decide +kernel
theorem dX3_diffuse_98 : decode cX3_diffuse 98 = .ok (.aload_n 0, 1) := by decide +kernel
theorem dX3_diffuse_99 : decode cX3_diffuse 99 = .ok (.iload_n 3, 1) := by decide +kernel
theorem dX3_diffuse_100 : decode cX3_diffuse 100 = .ok (.ifCond .eq 8, 3) := by decide +kernel
theorem dX3_diffuse_103 : decode cX3_diffuse 103 = .ok (.iload 4, 2) := by decide +kernel
theorem dX3_diffuse_105 : decode cX3_diffuse 105 = .ok (.goto 15, 3) := by decide +kernel
theorem dX3_diffuse_108 : decode cX3_diffuse 108 = .ok (.aload_n 0, 1) := by decide +kernel
theorem dX3_diffuse_109 : decode cX3_diffuse 109 = .ok (.getfield 15, 3) := by decide +kernel
theorem dX3_diffuse_112 : decode cX3_diffuse 112 = .ok (.getfield 25, 3) := by decide +kernel
theorem dX3_diffuse_115 : decode cX3_diffuse 115 = .ok (.iconst 1, 1) := by decide +kernel
theorem dX3_diffuse_116 : decode cX3_diffuse 116 = .ok (.isub, 1) := by decide +kernel
theorem dX3_diffuse_117 : decode cX3_diffuse 117 = .ok (.iload 4, 2) := by decide +kernel
theorem dX3_diffuse_119 : decode cX3_diffuse 119 = .ok (.isub, 1) := by decide +kernel
theorem dX3_diffuse_120 : decode cX3_diffuse 120 = .ok (.iload_n 2, 1) := by decide +kernel
theorem dX3_diffuse_121 : decode cX3_diffuse 121 = .ok (.iload_n 3, 1) := by decide +kernel
theorem dX3_diffuse_122 : decode cX3_diffuse 122 = .ok (.ifCond .eq 7, 3) := by decide +kernel
theorem dX3_diffuse_125 : decode cX3_diffuse 125 = .ok (.iconst 1, 1) := by decide +kernel
theorem dX3_diffuse_126 : decode cX3_diffuse 126 = .ok (.goto 4, 3) := by decide +kernel
theorem dX3_diffuse_129 : decode cX3_diffuse 129 = .ok (.iconst (-1), 1) := by decide +kernel
theorem dX3_diffuse_130 : decode cX3_diffuse 130 = .ok (.iload_n 1, 1) := by decide +kernel
theorem dX3_diffuse_131 : decode cX3_diffuse 131 = .ok (.invokevirtual 69, 3) := by decide +kernel
theorem dX3_diffuse_134 : decode cX3_diffuse 134 = .ok (.iinc 4 1, 3) := by decide +kernel
theorem dX3_diffuse_137 : decode cX3_diffuse 137 = .ok (.goto (-51), 3) := by decide +kernel
theorem dX3_diffuse_140 : decode cX3_diffuse 140 = .ok (.iinc 2 1, 3) := by decide +kernel
theorem dX3_diffuse_143 : decode cX3_diffuse 143 = .ok (.goto (-83), 3) := by decide +kernel
theorem dX3_diffuse_146 : decode cX3_diffuse 146 = .ok (.return_, 1) := by decide +kernel
theorem dX3_visit_0 : decode cX3_visit 0 = .ok (.aload_n 0, 1) := by decide +kernel
theorem dX3_visit_1 : decode cX3_visit 1 = .ok (.getfield 15, 3) := by decide +kernel
theorem dX3_visit_4 : decode cX3_visit 4 = .ok (.iload_n 1, 1) := by decide +kernel
theorem dX3_visit_5 : decode cX3_visit 5 = .ok (.iload_n 2, 1) := by decide +kernel
theorem dX3_visit_6 : decode cX3_visit 6 = .ok (.invokevirtual 28, 3) := by decide +kernel
theorem dX3_visit_9 : decode cX3_visit 9 = .ok (.istore 5, 2) := by decide +kernel
theorem dX3_visit_11 : decode cX3_visit 11 = .ok (.aload_n 0, 1) := by decide +kernel
theorem dX3_visit_12 : decode cX3_visit 12 = .ok (.getfield 15, 3) := by decide +kernel
theorem dX3_visit_15 : decode cX3_visit 15 = .ok (.iload 5, 2) := by decide +kernel
theorem dX3_visit_17 : decode cX3_visit 17 = .ok (.invokevirtual 38, 3) := by decide +kernel
theorem dX3_visit_20 : decode cX3_visit 20 = .ok (.ifCond .ne 21, 3) := by decide +kernel
theorem dX3_visit_23 : decode cX3_visit 23 = .ok (.aload_n 0, 1) := by decide +kernel
theorem dX3_visit_24 : decode cX3_visit 24 = .ok (.getfield 15, 3) := by decide +kernel
theorem dX3_visit_27 : decode cX3_visit 27 = .ok (.getfield 35, 3) := by decide +kernel
theorem dX3_visit_30 : decode cX3_visit 30 = .ok (.iload 5, 2) := by decide +kernel
theorem dX3_visit_32 : decode cX3_visit 32 = .ok (.aload_n 0, 1) := by decide +kernel
theorem dX3_visit_33 : decode cX3_visit 33 = .ok (.getfield 15, 3) := by decide +kernel
theorem dX3_visit_36 : decode cX3_visit 36 = .ok (.getfield 52, 3) := by decide +kernel
theorem dX3_visit_39 : decode cX3_visit 39 = .ok (.iastore, 1) := by decide +kernel
theorem dX3_visit_40 : decode cX3_visit 40 = .ok (.return_, 1) := by decide +kernel
theorem dX3_visit_41 : decode cX3_visit 41 = .ok (.aload_n 0, 1) := by decide +kernel
theorem dX3_visit_42 : decode cX3_visit 42 = .ok (.iload 5, 2) := by decide +kernel
theorem dX3_visit_44 : decode cX3_visit 44 = .ok (.iconst 0, 1) := by decide +kernel
theorem dX3_visit_45 : decode cX3_visit 45 = .ok (.invokevirtual 73, 3) := by decide +kernel
theorem dX3_visit_48 : decode cX3_visit 48 = .ok (.aload_n 0, 1) := by decide +kernel
theorem dX3_visit_49 : decode cX3_visit 49 = .ok (.iload 5, 2) := by decide +kernel
theorem dX3_visit_51 : decode cX3_visit 51 = .ok (.iconst 1, 1) := by decide +kernel
theorem dX3_visit_52 : decode cX3_visit 52 = .ok (.invokevirtual 73, 3) := by decide +kernel
theorem dX3_visit_55 : decode cX3_visit 55 = .ok (.aload_n 0, 1) := by decide +kernel
theorem dX3_visit_56 : decode cX3_visit 56 = .ok (.iload 5, 2) := by decide +kernel
theorem dX3_visit_58 : decode cX3_visit 58 = .ok (.iconst 2, 1) := by decide +kernel
theorem dX3_visit_59 : decode cX3_visit 59 = .ok (.invokevirtual 73, 3) := by decide +kernel
theorem dX3_visit_62 : decode cX3_visit 62 = .ok (.invokestatic 61, 3) := by decide +kernel
theorem dX3_visit_65 : decode cX3_visit 65 = .ok (.istore 6, 2) := by decide +kernel
theorem dX3_visit_67 : decode cX3_visit 67 = .ok (.aload_n 0, 1) := by decide +kernel
theorem dX3_visit_68 : decode cX3_visit 68 = .ok (.getfield 15, 3) := by decide +kernel
theorem dX3_visit_71 : decode cX3_visit 71 = .ok (.iload 6, 2) := by decide +kernel
theorem dX3_visit_73 : decode cX3_visit 73 = .ok (.invokevirtual 48, 3) := by decide +kernel
theorem dX3_visit_76 : decode cX3_visit 76 = .ok (.istore 7, 2) := by decide +kernel
theorem dX3_visit_78 : decode cX3_visit 78 = .ok (.aload_n 0, 1) := by decide +kernel
theorem dX3_visit_79 : decode cX3_visit 79 = .ok (.getfield 15, 3) := by decide +kernel
theorem dX3_visit_82 : decode cX3_visit 82 = .ok (.getfield 35, 3) := by decide +kernel
theorem dX3_visit_85 : decode cX3_visit 85 = .ok (.iload 5, 2) := by decide +kernel
theorem dX3_visit_87 : decode cX3_visit 87 = .ok (.iload 7, 2) := by decide +kernel
theorem dX3_visit_89 : decode cX3_visit 89 = .ok (.iastore, 1) := by decide +kernel
theorem dX3_visit_90 : decode cX3_visit 90 = .ok (.aload_n 0, 1) := by decide +kernel
theorem dX3_visit_91 : decode cX3_visit 91 = .ok (.getfield 15, 3) := by decide +kernel
theorem dX3_visit_94 : decode cX3_visit 94 = .ok (.iload 7, 2) := by decide +kernel
theorem dX3_visit_96 : decode cX3_visit 96 = .ok (.invokevirtual 76, 3) := by decide +kernel
theorem dX3_visit_99 : decode cX3_visit 99 = .ok (.ifCond .ne 4, 3) := by decide +kernel
theorem dX3_visit_102 : decode cX3_visit 102 = .ok (.return_, 1) := by decide +kernel
theorem dX3_visit_103 : decode cX3_visit 103 = .ok (.iconst 0, 1) := by decide +kernel
theorem dX3_visit_104 : decode cX3_visit 104 = .ok (.istore 8, 2) := by decide +kernel
theorem dX3_visit_106 : decode cX3_visit 106 = .ok (.iload 8, 2) := by decide +kernel
theorem dX3_visit_108 : decode cX3_visit 108 = .ok (.iconst 3, 1) := by decide +kernel
theorem dX3_visit_109 : decode cX3_visit 109 = .ok (.if_icmp .ge 73, 3) := by decide +kernel
theorem dX3_visit_112 : decode cX3_visit 112 = .ok (.aload_n 0, 1) := by decide +kernel
theorem dX3_visit_113 : decode cX3_visit 113 = .ok (.getfield 9, 3) := by decide +kernel
theorem dX3_visit_116 : decode cX3_visit 116 = .ok (.iconst 3, 1) := by decide +kernel
theorem dX3_visit_117 : decode cX3_visit 117 = .ok (.iload 5, 2) := by decide +kernel
theorem dX3_visit_119 : decode cX3_visit 119 = .ok (.imul, 1) := by decide +kernel
theorem dX3_visit_120 : decode cX3_visit 120 = .ok (.iload 8, 2) := by decide +kernel
theorem dX3_visit_122 : decode cX3_visit 122 = .ok (.iadd, 1) := by decide +kernel
theorem dX3_visit_123 : decode cX3_visit 123 = .ok (.iaload, 1) := by decide +kernel
theorem dX3_visit_124 : decode cX3_visit 124 = .ok (.bipush 16, 2) := by decide +kernel
theorem dX3_visit_126 : decode cX3_visit 126 = .ok (.aload_n 0, 1) := by decide +kernel
theorem dX3_visit_127 : decode cX3_visit 127 = .ok (.getfield 15, 3) := by decide +kernel
theorem dX3_visit_130 : decode cX3_visit 130 = .ok (.getfield 79, 3) := by decide +kernel
theorem dX3_visit_133 : decode cX3_visit 133 = .ok (.iload 7, 2) := by decide +kernel
theorem dX3_visit_135 : decode cX3_visit 135 = .ok (.iaload, 1) := by decide +kernel
theorem dX3_visit_136 : decode cX3_visit 136 = .ok (.iload 8, 2) := by decide +kernel
theorem dX3_visit_138 : decode cX3_visit 138 = .ok (.invokestatic 55, 3) := by decide +kernel
theorem dX3_visit_141 : decode cX3_visit 141 = .ok (.imul, 1) := by decide +kernel
theorem dX3_visit_142 : decode cX3_visit 142 = .ok (.isub, 1) := by decide +kernel
theorem dX3_visit_143 : decode cX3_visit 143 = .ok (.istore 9, 2) := by decide +kernel
theorem dX3_visit_145 : decode cX3_visit 145 = .ok (.iload 4, 2) := by decide +kernel
theorem dX3_visit_147 : decode cX3_visit 147 = .ok (.iconst 2, 1) := by decide +kernel
theorem dX3_visit_148 : decode cX3_visit 148 = .ok (.if_icmp .ne 17, 3) := by decide +kernel
theorem dX3_visit_151 : decode cX3_visit 151 = .ok (.aload_n 0, 1) := by decide +kernel
theorem dX3_visit_152 : decode cX3_visit 152 = .ok (.iload_n 1, 1) := by decide +kernel
theorem dX3_visit_153 : decode cX3_visit 153 = .ok (.iload_n 2, 1) := by decide +kernel
theorem dX3_visit_154 : decode cX3_visit 154 = .ok (.iload_n 3, 1) := by decide +kernel
theorem dX3_visit_155 : decode cX3_visit 155 = .ok (.iload 8, 2) := by decide +kernel
theorem dX3_visit_157 : decode cX3_visit 157 = .ok (.iload 9, 2) := by decide +kernel
theorem dX3_visit_159 : decode cX3_visit 159 = .ok (.invokevirtual 82, 3) := by decide +kernel
theorem dX3_visit_162 : decode cX3_visit 162 = .ok (.goto 14, 3) := by decide +kernel
theorem dX3_visit_165 : decode cX3_visit 165 = .ok (.aload_n 0, 1) := by decide +kernel
theorem dX3_visit_166 : decode cX3_visit 166 = .ok (.iload_n 1, 1) := by decide +kernel
theorem dX3_visit_167 : decode cX3_visit 167 = .ok (.iload_n 2, 1) := by decide +kernel
theorem dX3_visit_168 : decode cX3_visit 168 = .ok (.iload_n 3, 1) := by decide +kernel
theorem dX3_visit_169 : decode cX3_visit 169 = .ok (.iload 8, 2) := by decide +kernel
theorem dX3_visit_171 : decode cX3_visit 171 = .ok (.iload 9, 2) := by decide +kernel
theorem dX3_visit_173 : decode cX3_visit 173 = .ok (.invokevirtual 86, 3) := by decide +kernel
theorem dX3_visit_176 : decode cX3_visit 176 = .ok (.iinc 8 1, 3) := by decide +kernel
theorem dX3_visit_179 : decode cX3_visit 179 = .ok (.goto (-73), 3) := by decide +kernel
theorem dX3_visit_182 : decode cX3_visit 182 = .ok (.return_, 1) := by decide +kernel
theorem dX3_wantedValue_0 : decode cX3_wantedValue 0 = .ok (.aload_n 0, 1) := by decide +kernel
theorem dX3_wantedValue_1 : decode cX3_wantedValue 1 = .ok (.getfield 9, 3) := by decide +kernel
theorem dX3_wantedValue_4 : decode cX3_wantedValue 4 = .ok (.iconst 3, 1) := by decide +kernel
theorem dX3_wantedValue_5 : decode cX3_wantedValue 5 = .ok (.iload_n 1, 1) := by decide +kernel
theorem dX3_wantedValue_6 : decode cX3_wantedValue 6 = .ok (.imul, 1) := by decide +kernel
theorem dX3_wantedValue_7 : decode cX3_wantedValue 7 = .ok (.iload_n 2, 1) := by decide +kernel
theorem dX3_wantedValue_8 : decode cX3_wantedValue 8 = .ok (.iadd, 1) := by decide +kernel
theorem dX3_wantedValue_9 : decode cX3_wantedValue 9 = .ok (.iaload, 1) := by decide +kernel
theorem dX3_wantedValue_10 : decode cX3_wantedValue 10 = .ok (.bipush 8, 2) := by decide +kernel
theorem dX3_wantedValue_12 : decode cX3_wantedValue 12 = .ok (.iadd, 1) := by decide +kernel
theorem dX3_wantedValue_13 : decode cX3_wantedValue 13 = .ok (.bipush 16, 2) := by decide +kernel
theorem dX3_wantedValue_15 : decode cX3_wantedValue 15 = .ok (.invokestatic 89, 3) := by decide +kernel
theorem dX3_wantedValue_18 : decode cX3_wantedValue 18 = .ok (.invokestatic 58, 3) := by decide +kernel
theorem dX3_wantedValue_21 : decode cX3_wantedValue 21 = .ok (.ireturn, 1) := by decide +kernel
theorem dX3_spreadInFour_0 : decode cX3_spreadInFour 0 = .ok (.bipush 7, 2) := by decide +kernel
theorem dX3_spreadInFour_2 : decode cX3_spreadInFour 2 = .ok (.iload 5, 2) := by decide +kernel
theorem dX3_spreadInFour_4 : decode cX3_spreadInFour 4 = .ok (.imul, 1) := by decide +kernel
theorem dX3_spreadInFour_5 : decode cX3_spreadInFour 5 = .ok (.bipush 16, 2) := by decide +kernel
theorem dX3_spreadInFour_7 : decode cX3_spreadInFour 7 = .ok (.invokestatic 89, 3) := by decide +kernel
theorem dX3_spreadInFour_10 : decode cX3_spreadInFour 10 = .ok (.istore 6, 2) := by decide +kernel
theorem dX3_spreadInFour_12 : decode cX3_spreadInFour 12 = .ok (.iconst 3, 1) := by decide +kernel
theorem dX3_spreadInFour_13 : decode cX3_spreadInFour 13 = .ok (.iload 5, 2) := by decide +kernel
theorem dX3_spreadInFour_15 : decode cX3_spreadInFour 15 = .ok (.imul, 1) := by decide +kernel
theorem dX3_spreadInFour_16 : decode cX3_spreadInFour 16 = .ok (.bipush 16, 2) := by decide +kernel
theorem dX3_spreadInFour_18 : decode cX3_spreadInFour 18 = .ok (.invokestatic 89, 3) := by decide +kernel
theorem dX3_spreadInFour_21 : decode cX3_spreadInFour 21 = .ok (.istore 7, 2) := by decide +kernel
theorem dX3_spreadInFour_23 : decode cX3_spreadInFour 23 = .ok (.iconst 5, 1) := by decide +kernel
theorem dX3_spreadInFour_24 : decode cX3_spreadInFour 24 = .ok (.iload 5, 2) := by decide +kernel
theorem dX3_spreadInFour_26 : decode cX3_spreadInFour 26 = .ok (.imul, 1) := by decide +kernel
theorem dX3_spreadInFour_27 : decode cX3_spreadInFour 27 = .ok (.bipush 16, 2) := by decide +kernel
theorem dX3_spreadInFour_29 : decode cX3_spreadInFour 29 = .ok (.invokestatic 89, 3) := by decide +kernel
theorem dX3_spreadInFour_32 : decode cX3_spreadInFour 32 = .ok (.istore 8, 2) := by decide +kernel
theorem dX3_spreadInFour_34 : decode cX3_spreadInFour 34 = .ok (.aload_n 0, 1) := by decide +kernel
theorem dX3_spreadInFour_35 : decode cX3_spreadInFour 35 = .ok (.iload_n 1, 1) := by decide +kernel
theorem dX3_spreadInFour_36 : decode cX3_spreadInFour 36 = .ok (.iload_n 3, 1) := by decide +kernel
theorem dX3_spreadInFour_37 : decode cX3_spreadInFour 37 = .ok (.iadd, 1) := by decide +kernel
theorem dX3_spreadInFour_38 : decode cX3_spreadInFour 38 = .ok (.iload_n 2, 1) := by decide +kernel
theorem dX3_spreadInFour_39 : decode cX3_spreadInFour 39 = .ok (.iload 4, 2) := by decide +kernel
theorem dX3_spreadInFour_41 : decode cX3_spreadInFour 41 = .ok (.iload 6, 2) := by decide +kernel
theorem dX3_spreadInFour_43 : decode cX3_spreadInFour 43 = .ok (.invokevirtual 94, 3) := by decide +kernel
theorem dX3_spreadInFour_46 : decode cX3_spreadInFour 46 = .ok (.aload_n 0, 1) := by decide +kernel
theorem dX3_spreadInFour_47 : decode cX3_spreadInFour 47 = .ok (.iload_n 1, 1) := by decide +kernel
theorem dX3_spreadInFour_48 : decode cX3_spreadInFour 48 = .ok (.iload_n 3, 1) := by decide +kernel
theorem dX3_spreadInFour_49 : decode cX3_spreadInFour 49 = .ok (.isub, 1) := by decide +kernel
theorem dX3_spreadInFour_50 : decode cX3_spreadInFour 50 = .ok (.iload_n 2, 1) := by decide +kernel
theorem dX3_spreadInFour_51 : decode cX3_spreadInFour 51 = .ok (.iconst 1, 1) := by decide +kernel
theorem dX3_spreadInFour_52 : decode cX3_spreadInFour 52 = .ok (.iadd, 1) := by decide +kernel
theorem dX3_spreadInFour_53 : decode cX3_spreadInFour 53 = .ok (.iload 4, 2) := by decide +kernel
theorem dX3_spreadInFour_55 : decode cX3_spreadInFour 55 = .ok (.iload 7, 2) := by decide +kernel
theorem dX3_spreadInFour_57 : decode cX3_spreadInFour 57 = .ok (.invokevirtual 94, 3) := by decide +kernel
theorem dX3_spreadInFour_60 : decode cX3_spreadInFour 60 = .ok (.aload_n 0, 1) := by decide +kernel
theorem dX3_spreadInFour_61 : decode cX3_spreadInFour 61 = .ok (.iload_n 1, 1) := by decide +kernel
theorem dX3_spreadInFour_62 : decode cX3_spreadInFour 62 = .ok (.iload_n 2, 1) := by decide +kernel
theorem dX3_spreadInFour_63 : decode cX3_spreadInFour 63 = .ok (.iconst 1, 1) := by decide +kernel
theorem dX3_spreadInFour_64 : decode cX3_spreadInFour 64 = .ok (.iadd, 1) := by decide +kernel
theorem dX3_spreadInFour_65 : decode cX3_spreadInFour 65 = .ok (.iload 4, 2) := by decide +kernel
theorem dX3_spreadInFour_67 : decode cX3_spreadInFour 67 = .ok (.iload 8, 2) := by decide +kernel
theorem dX3_spreadInFour_69 : decode cX3_spreadInFour 69 = .ok (.invokevirtual 94, 3) := by decide +kernel
theorem dX3_spreadInFour_72 : decode cX3_spreadInFour 72 = .ok (.aload_n 0, 1) := by decide +kernel
theorem dX3_spreadInFour_73 : decode cX3_spreadInFour 73 = .ok (.iload_n 1, 1) := by decide +kernel
theorem dX3_spreadInFour_74 : decode cX3_spreadInFour 74 = .ok (.iload_n 3, 1) := by decide +kernel
theorem dX3_spreadInFour_75 : decode cX3_spreadInFour 75 = .ok (.iadd, 1) := by decide +kernel
theorem dX3_spreadInFour_76 : decode cX3_spreadInFour 76 = .ok (.iload_n 2, 1) := by decide +kernel
theorem dX3_spreadInFour_77 : decode cX3_spreadInFour 77 = .ok (.iconst 1, 1) := by decide +kernel
theorem dX3_spreadInFour_78 : decode cX3_spreadInFour 78 = .ok (.iadd, 1) := by decide +kernel
theorem dX3_spreadInFour_79 : decode cX3_spreadInFour 79 = .ok (.iload 4, 2) := by decide +kernel
theorem dX3_spreadInFour_81 : decode cX3_spreadInFour 81 = .ok (.iload 5, 2) := by decide +kernel
theorem dX3_spreadInFour_83 : decode cX3_spreadInFour 83 = .ok (.iload 6, 2) := by decide +kernel
theorem dX3_spreadInFour_85 : decode cX3_spreadInFour 85 = .ok (.isub, 1) := by decide +kernel
theorem dX3_spreadInFour_86 : decode cX3_spreadInFour 86 = .ok (.iload 7, 2) := by decide +kernel
theorem dX3_spreadInFour_88 : decode cX3_spreadInFour 88 = .ok (.isub, 1) := by decide +kernel
theorem dX3_spreadInFour_89 : decode cX3_spreadInFour 89 = .ok (.iload 8, 2) := by decide +kernel
theorem dX3_spreadInFour_91 : decode cX3_spreadInFour 91 = .ok (.isub, 1) := by decide +kernel
theorem dX3_spreadInFour_92 : decode cX3_spreadInFour 92 = .ok (.invokevirtual 94, 3) := by decide +kernel
theorem dX3_spreadInFour_95 : decode cX3_spreadInFour 95 = .ok (.return_, 1) := by decide +kernel
theorem dX3_spreadInSix_0 : decode cX3_spreadInSix 0 = .ok (.iload 5, 2) := by decide +kernel
theorem dX3_spreadInSix_2 : decode cX3_spreadInSix 2 = .ok (.bipush 8, 2) := by decide +kernel
theorem dX3_spreadInSix_4 : decode cX3_spreadInSix 4 = .ok (.invokestatic 89, 3) := by decide +kernel
theorem dX3_spreadInSix_7 : decode cX3_spreadInSix 7 = .ok (.istore 6, 2) := by decide +kernel
theorem dX3_spreadInSix_9 : decode cX3_spreadInSix 9 = .ok (.aload_n 0, 1) := by decide +kernel
theorem dX3_spreadInSix_10 : decode cX3_spreadInSix 10 = .ok (.iload_n 1, 1) := by decide +kernel
theorem dX3_spreadInSix_11 : decode cX3_spreadInSix 11 = .ok (.iload_n 3, 1) := by decide +kernel
theorem dX3_spreadInSix_12 : decode cX3_spreadInSix 12 = .ok (.iadd, 1) := by decide +kernel
theorem dX3_spreadInSix_13 : decode cX3_spreadInSix 13 = .ok (.iload_n 2, 1) := by decide +kernel
theorem dX3_spreadInSix_14 : decode cX3_spreadInSix 14 = .ok (.iload 4, 2) := by decide +kernel
theorem dX3_spreadInSix_16 : decode cX3_spreadInSix 16 = .ok (.iload 6, 2) := by decide +kernel
theorem dX3_spreadInSix_18 : decode cX3_spreadInSix 18 = .ok (.invokevirtual 94, 3) := by decide +kernel
theorem dX3_spreadInSix_21 : decode cX3_spreadInSix 21 = .ok (.aload_n 0, 1) := by decide +kernel
theorem dX3_spreadInSix_22 : decode cX3_spreadInSix 22 = .ok (.iload_n 1, 1) := by decide +kernel
theorem dX3_spreadInSix_23 : decode cX3_spreadInSix 23 = .ok (.iconst 2, 1) := by decide +kernel
theorem dX3_spreadInSix_24 : decode cX3_spreadInSix 24 = .ok (.iload_n 3, 1) := by decide +kernel
theorem dX3_spreadInSix_25 : decode cX3_spreadInSix 25 = .ok (.imul, 1) := by decide +kernel
theorem dX3_spreadInSix_26 : decode cX3_spreadInSix 26 = .ok (.iadd, 1) := by decide +kernel
theorem dX3_spreadInSix_27 : decode cX3_spreadInSix 27 = .ok (.iload_n 2, 1) := by decide +kernel
theorem dX3_spreadInSix_28 : decode cX3_spreadInSix 28 = .ok (.iload 4, 2) := by decide +kernel
theorem dX3_spreadInSix_30 : decode cX3_spreadInSix 30 = .ok (.iload 6, 2) := by decide +kernel
theorem dX3_spreadInSix_32 : decode cX3_spreadInSix 32 = .ok (.invokevirtual 94, 3) := by decide +kernel
theorem dX3_spreadInSix_35 : decode cX3_spreadInSix 35 = .ok (.aload_n 0, 1) := by decide +kernel
theorem dX3_spreadInSix_36 : decode cX3_spreadInSix 36 = .ok (.iload_n 1, 1) := by decide +kernel
theorem dX3_spreadInSix_37 : decode cX3_spreadInSix 37 = .ok (.iconst 1, 1) := by decide +kernel
theorem dX3_spreadInSix_38 : decode cX3_spreadInSix 38 = .ok (.isub, 1) := by decide +kernel
theorem dX3_spreadInSix_39 : decode cX3_spreadInSix 39 = .ok (.iload_n 2, 1) := by decide +kernel
theorem dX3_spreadInSix_40 : decode cX3_spreadInSix 40 = .ok (.iconst 1, 1) := by decide +kernel
theorem dX3_spreadInSix_41 : decode cX3_spreadInSix 41 = .ok (.iadd, 1) := by decide +kernel
theorem dX3_spreadInSix_42 : decode cX3_spreadInSix 42 = .ok (.iload 4, 2) := by decide +kernel
theorem dX3_spreadInSix_44 : decode cX3_spreadInSix 44 = .ok (.iload 6, 2) := by decide +kernel
theorem dX3_spreadInSix_46 : decode cX3_spreadInSix 46 = .ok (.invokevirtual 94, 3) := by decide +kernel
theorem dX3_spreadInSix_49 : decode cX3_spreadInSix 49 = .ok (.aload_n 0, 1) := by decide +kernel
theorem dX3_spreadInSix_50 : decode cX3_spreadInSix 50 = .ok (.iload_n 1, 1) := by decide +kernel
theorem dX3_spreadInSix_51 : decode cX3_spreadInSix 51 = .ok (.iload_n 2, 1) := by decide +kernel
theorem dX3_spreadInSix_52 : decode cX3_spreadInSix 52 = .ok (.iconst 1, 1) := by decide +kernel
theorem dX3_spreadInSix_53 : decode cX3_spreadInSix 53 = .ok (.iadd, 1) := by decide +kernel
theorem dX3_spreadInSix_54 : decode cX3_spreadInSix 54 = .ok (.iload 4, 2) := by decide +kernel
theorem dX3_spreadInSix_56 : decode cX3_spreadInSix 56 = .ok (.iload 6, 2) := by decide +kernel
theorem dX3_spreadInSix_58 : decode cX3_spreadInSix 58 = .ok (.invokevirtual 94, 3) := by decide +kernel
theorem dX3_spreadInSix_61 : decode cX3_spreadInSix 61 = .ok (.aload_n 0, 1) := by decide +kernel
theorem dX3_spreadInSix_62 : decode cX3_spreadInSix 62 = .ok (.iload_n 1, 1) := by decide +kernel
theorem dX3_spreadInSix_63 : decode cX3_spreadInSix 63 = .ok (.iconst 1, 1) := by decide +kernel
theorem dX3_spreadInSix_64 : decode cX3_spreadInSix 64 = .ok (.iadd, 1) := by decide +kernel
theorem dX3_spreadInSix_65 : decode cX3_spreadInSix 65 = .ok (.iload_n 2, 1) := by decide +kernel
theorem dX3_spreadInSix_66 : decode cX3_spreadInSix 66 = .ok (.iconst 1, 1) := by decide +kernel
theorem dX3_spreadInSix_67 : decode cX3_spreadInSix 67 = .ok (.iadd, 1) := by decide +kernel
theorem dX3_spreadInSix_68 : decode cX3_spreadInSix 68 = .ok (.iload 4, 2) := by decide +kernel
theorem dX3_spreadInSix_70 : decode cX3_spreadInSix 70 = .ok (.iload 6, 2) := by decide +kernel
theorem dX3_spreadInSix_72 : decode cX3_spreadInSix 72 = .ok (.invokevirtual 94, 3) := by decide +kernel
theorem dX3_spreadInSix_75 : decode cX3_spreadInSix 75 = .ok (.aload_n 0, 1) := by decide +kernel
theorem dX3_spreadInSix_76 : decode cX3_spreadInSix 76 = .ok (.iload_n 1, 1) := by decide +kernel
theorem dX3_spreadInSix_77 : decode cX3_spreadInSix 77 = .ok (.iload_n 2, 1) := by decide +kernel
theorem dX3_spreadInSix_78 : decode cX3_spreadInSix 78 = .ok (.iconst 2, 1) := by decide +kernel
theorem dX3_spreadInSix_79 : decode cX3_spreadInSix 79 = .ok (.iadd, 1) := by decide +kernel
theorem dX3_spreadInSix_80 : decode cX3_spreadInSix 80 = .ok (.iload 4, 2) := by decide +kernel
theorem dX3_spreadInSix_82 : decode cX3_spreadInSix 82 = .ok (.iload 6, 2) := by decide +kernel
theorem dX3_spreadInSix_84 : decode cX3_spreadInSix 84 = .ok (.invokevirtual 94, 3) := by decide +kernel
theorem dX3_spreadInSix_87 : decode cX3_spreadInSix 87 = .ok (.return_, 1) := by decide +kernel
theorem dX3_give_0 : decode cX3_give 0 = .ok (.aload_n 0, 1) := by decide +kernel
theorem dX3_give_1 : decode cX3_give 1 = .ok (.getfield 15, 3) := by decide +kernel
theorem dX3_give_4 : decode cX3_give 4 = .ok (.iload_n 1, 1) := by decide +kernel
theorem dX3_give_5 : decode cX3_give 5 = .ok (.iload_n 2, 1) := by decide +kernel
theorem dX3_give_6 : decode cX3_give 6 = .ok (.invokevirtual 97, 3) := by decide +kernel
theorem dX3_give_9 : decode cX3_give 9 = .ok (.ifCond .eq 26, 3) := by decide +kernel
theorem dX3_give_12 : decode cX3_give 12 = .ok (.aload_n 0, 1) := by decide +kernel
theorem dX3_give_13 : decode cX3_give 13 = .ok (.getfield 9, 3) := by decide +kernel
theorem dX3_give_16 : decode cX3_give 16 = .ok (.iconst 3, 1) := by decide +kernel
theorem dX3_give_17 : decode cX3_give 17 = .ok (.aload_n 0, 1) := by decide +kernel
theorem dX3_give_18 : decode cX3_give 18 = .ok (.getfield 15, 3) := by decide +kernel
theorem dX3_give_21 : decode cX3_give 21 = .ok (.iload_n 1, 1) := by decide +kernel
theorem dX3_give_22 : decode cX3_give 22 = .ok (.iload_n 2, 1) := by decide +kernel
theorem dX3_give_23 : decode cX3_give 23 = .ok (.invokevirtual 28, 3) := by decide +kernel
theorem dX3_give_26 : decode cX3_give 26 = .ok (.imul, 1) := by decide +kernel
theorem dX3_give_27 : decode cX3_give 27 = .ok (.iload_n 3, 1) := by decide +kernel
theorem dX3_give_28 : decode cX3_give 28 = .ok (.iadd, 1) := by decide +kernel
theorem dX3_give_29 : decode cX3_give 29 = .ok (.dup2, 1) := by decide +kernel
theorem dX3_give_30 : decode cX3_give 30 = .ok (.iaload, 1) := by decide +kernel
theorem dX3_give_31 : decode cX3_give 31 = .ok (.iload 4, 2) := by decide +kernel
theorem dX3_give_33 : decode cX3_give 33 = .ok (.iadd, 1) := by decide +kernel
theorem dX3_give_34 : decode cX3_give 34 = .ok (.iastore, 1) := by decide +kernel
theorem dX3_give_35 : decode cX3_give 35 = .ok (.return_, 1) := by decide +kernel
theorem dX4_init_0 : decode cX4_init 0 = .ok (.aload_n 0, 1) := by decide +kernel
theorem dX4_init_1 : decode cX4_init 1 = .ok (.invokespecial 3, 3) := by decide +kernel
theorem dX4_init_4 : decode cX4_init 4 = .ok (.aload_n 0, 1) := by decide +kernel
theorem dX4_init_5 : decode cX4_init 5 = .ok (.sipush 256, 3) := by decide +kernel
theorem dX4_init_8 : decode cX4_init 8 = .ok (.newarray .long, 2) := by decide +kernel
theorem dX4_init_10 : decode cX4_init 10 = .ok (.putfield 9, 3) := by decide +kernel
theorem dX4_init_13 : decode cX4_init 13 = .ok (.aload_n 0, 1) := by decide +kernel
theorem dX4_init_14 : decode cX4_init 14 = .ok (.bipush 16, 2) := by decide +kernel
theorem dX4_init_16 : decode cX4_init 16 = .ok (.newarray .int, 2) := by decide +kernel
theorem dX4_init_18 : decode cX4_init 18 = .ok (.putfield 15, 3) := by decide +kernel
theorem dX4_init_21 : decode cX4_init 21 = .ok (.aload_n 0, 1) := by decide +kernel
theorem dX4_init_22 : decode cX4_init 22 = .ok (.bipush 16, 2) := by decide +kernel
theorem dX4_init_24 : decode cX4_init 24 = .ok (.newarray .int, 2) := by decide +kernel
theorem dX4_init_26 : decode cX4_init 26 = .ok (.putfield 19, 3) := by decide +kernel
theorem dX4_init_29 : decode cX4_init 29 = .ok (.aload_n 0, 1) := by decide +kernel
theorem dX4_init_30 : decode cX4_init 30 = .ok (.iconst 0, 1) := by decide +kernel
theorem dX4_init_31 : decode cX4_init 31 = .ok (.putfield 22, 3) := by decide +kernel
theorem dX4_init_34 : decode cX4_init 34 = .ok (.aload_n 0, 1) := by decide +kernel
theorem dX4_init_35 : decode cX4_init 35 = .ok (.aload_n 1, 1) := by decide +kernel
theorem dX4_init_36 : decode cX4_init 36 = .ok (.putfield 26, 3) := by decide +kernel
theorem dX4_init_39 : decode cX4_init 39 = .ok (.aload_n 0, 1) := by decide +kernel
theorem dX4_init_40 : decode cX4_init 40 = .ok (.aload_n 2, 1) := by decide +kernel
theorem dX4_init_41 : decode cX4_init 41 = .ok (.putfield 30, 3) := by decide +kernel
theorem dX4_init_44 : decode cX4_init 44 = .ok (.return_, 1) := by decide +kernel
theorem dX4_fill_0 : decode cX4_fill 0 = .ok (.iload_n 1, 1) := by decide +kernel
theorem dX4_fill_1 : decode cX4_fill 1 = .ok (.aload_n 0, 1) := by decide +kernel
theorem dX4_fill_2 : decode cX4_fill 2 = .ok (.getfield 26, 3) := by decide +kernel
theorem dX4_fill_5 : decode cX4_fill 5 = .ok (.getfield 34, 3) := by decide +kernel
theorem dX4_fill_8 : decode cX4_fill 8 = .ok (.isub, 1) := by decide +kernel
theorem dX4_fill_9 : decode cX4_fill 9 = .ok (.bipush 16, 2) := by decide +kernel
theorem dX4_fill_11 : decode cX4_fill 11 = .ok (.invokestatic 39, 3) := by decide +kernel
theorem dX4_fill_14 : decode cX4_fill 14 = .ok (.istore_n 3, 1) := by decide +kernel
theorem dX4_fill_15 : decode cX4_fill 15 = .ok (.aload_n 0, 1) := by decide +kernel
theorem dX4_fill_16 : decode cX4_fill 16 = .ok (.iload_n 3, 1) := by decide +kernel
theorem dX4_fill_17 : decode cX4_fill 17 = .ok (.invokevirtual 45, 3) := by decide +kernel
theorem dX4_fill_20 : decode cX4_fill 20 = .ok (.aload_n 0, 1) := by decide +kernel
theorem dX4_fill_21 : decode cX4_fill 21 = .ok (.getfield 22, 3) := by decide +kernel
theorem dX4_fill_24 : decode cX4_fill 24 = .ok (.istore 4, 2) := by decide +kernel
theorem dX4_fill_26 : decode cX4_fill 26 = .ok (.iload 4, 2) := by decide +kernel
theorem dX4_fill_28 : decode cX4_fill 28 = .ok (.iload_n 3, 1) := by decide +kernel
theorem dX4_fill_29 : decode cX4_fill 29 = .ok (.if_icmp .ge 31, 3) := by decide +kernel
theorem dX4_fill_32 : decode cX4_fill 32 = .ok (.aload_n 0, 1) := by decide +kernel
theorem dX4_fill_33 : decode cX4_fill 33 = .ok (.iload_n 2, 1) := by decide +kernel
theorem dX4_fill_34 : decode cX4_fill 34 = .ok (.invokevirtual 49, 3) := by decide +kernel
theorem dX4_fill_37 : decode cX4_fill 37 = .ok (.istore 5, 2) := by decide +kernel
theorem dX4_fill_39 : decode cX4_fill 39 = .ok (.iload 5, 2) := by decide +kernel
theorem dX4_fill_41 : decode cX4_fill 41 = .ok (.iconst (-1), 1) := by decide +kernel
theorem dX4_fill_42 : decode cX4_fill 42 = .ok (.if_icmp .ne 6, 3) := by decide +kernel
theorem dX4_fill_45 : decode cX4_fill 45 = .ok (.goto 15, 3) := by decide +kernel
theorem dX4_fill_48 : decode cX4_fill 48 = .ok (.aload_n 0, 1) := by decide +kernel
theorem dX4_fill_49 : decode cX4_fill 49 = .ok (.iload 5, 2) := by decide +kernel
theorem dX4_fill_51 : decode cX4_fill 51 = .ok (.invokevirtual 53, 3) := by decide +kernel
theorem dX4_fill_54 : decode cX4_fill 54 = .ok (.iinc 4 1, 3) := by decide +kernel
theorem dX4_fill_57 : decode cX4_fill 57 = .ok (.goto (-31), 3) := by decide +kernel
theorem dX4_fill_60 : decode cX4_fill 60 = .ok (.iconst 0, 1) := by decide +kernel
theorem dX4_fill_61 : decode cX4_fill 61 = .ok (.istore 4, 2) := by decide +kernel
theorem dX4_fill_63 : decode cX4_fill 63 = .ok (.iload 4, 2) := by decide +kernel
theorem dX4_fill_65 : decode cX4_fill 65 = .ok (.aload_n 0, 1) := by decide +kernel
theorem dX4_fill_66 : decode cX4_fill 66 = .ok (.getfield 22, 3) := by decide +kernel
theorem dX4_fill_69 : decode cX4_fill 69 = .ok (.if_icmp .ge 23, 3) := by decide +kernel
theorem dX4_fill_72 : decode cX4_fill 72 = .ok (.aload_n 0, 1) := by decide +kernel
theorem dX4_fill_73 : decode cX4_fill 73 = .ok (.getfield 26, 3) := by decide +kernel
theorem dX4_fill_76 : decode cX4_fill 76 = .ok (.aload_n 0, 1) := by decide +kernel
theorem dX4_fill_77 : decode cX4_fill 77 = .ok (.iload 4, 2) := by decide +kernel
theorem dX4_fill_79 : decode cX4_fill 79 = .ok (.invokevirtual 56, 3) := by decide +kernel
theorem dX4_fill_82 : decode cX4_fill 82 = .ok (.iconst 0, 1) := by decide +kernel
theorem dX4_fill_83 : decode cX4_fill 83 = .ok (.invokevirtual 59, 3) := by decide +kernel
theorem dX4_fill_86 : decode cX4_fill 86 = .ok (.iinc 4 1, 3) := by decide +kernel
theorem dX4_fill_89 : decode cX4_fill 89 = .ok (.goto (-26), 3) := by decide +kernel
theorem dX4_fill_92 : decode cX4_fill 92 = .ok (.return_, 1) := by decide +kernel
theorem dX4_makeFirstBox_0 : decode cX4_makeFirstBox 0 = .ok (.aload_n 0, 1) := by decide +kernel
theorem dX4_makeFirstBox_1 : decode cX4_makeFirstBox 1 = .ok (.iconst 0, 1) := by decide +kernel
theorem dX4_makeFirstBox_2 : decode cX4_makeFirstBox 2 = .ok (.putfield 22, 3) := by decide +kernel
theorem dX4_makeFirstBox_5 : decode cX4_makeFirstBox 5 = .ok (.aload_n 0, 1) := by decide +kernel
theorem dX4_makeFirstBox_6 : decode cX4_makeFirstBox 6 = .ok (.getfield 30, 3) := by decide +kernel
theorem dX4_makeFirstBox_9 : decode cX4_makeFirstBox 9 = .ok (.invokevirtual 63, 3) := by decide +kernel
theorem dX4_makeFirstBox_12 : decode cX4_makeFirstBox 12 = .ok (.iconst 0, 1) := by decide +kernel
theorem dX4_makeFirstBox_13 : decode cX4_makeFirstBox 13 = .ok (.istore_n 2, 1) := by decide +kernel
theorem dX4_makeFirstBox_14 : decode cX4_makeFirstBox 14 = .ok (.iconst 0, 1) := by decide +kernel
theorem dX4_makeFirstBox_15 : decode cX4_makeFirstBox 15 = .ok (.istore_n 3, 1) := by decide +kernel
theorem dX4_makeFirstBox_16 : decode cX4_makeFirstBox 16 = .ok (.iload_n 3, 1) := by decide +kernel
theorem dX4_makeFirstBox_17 : decode cX4_makeFirstBox 17 = .ok (.aload_n 0, 1) := by decide +kernel
theorem dX4_makeFirstBox_18 : decode cX4_makeFirstBox 18 = .ok (.getfield 30, 3) := by decide +kernel
theorem dX4_makeFirstBox_21 : decode cX4_makeFirstBox 21 = .ok (.getfield 68, 3) := by decide +kernel
theorem dX4_makeFirstBox_24 : decode cX4_makeFirstBox 24 = .ok (.if_icmp .ge 62, 3) := by decide +kernel
theorem dX4_makeFirstBox_27 : decode cX4_makeFirstBox 27 = .ok (.aload_n 0, 1) := by decide +kernel
theorem dX4_makeFirstBox_28 : decode cX4_makeFirstBox 28 = .ok (.getfield 26, 3) := by decide +kernel
theorem dX4_makeFirstBox_31 : decode cX4_makeFirstBox 31 = .ok (.aload_n 0, 1) := by decide +kernel
theorem dX4_makeFirstBox_32 : decode cX4_makeFirstBox 32 = .ok (.getfield 30, 3) := by decide +kernel
theorem dX4_makeFirstBox_35 : decode cX4_makeFirstBox 35 = .ok (.getfield 69, 3) := by decide +kernel
theorem dX4_makeFirstBox_38 : decode cX4_makeFirstBox 38 = .ok (.iload_n 3, 1) := by decide +kernel
theorem dX4_makeFirstBox_39 : decode cX4_makeFirstBox 39 = .ok (.iaload, 1) := by decide +kernel
theorem dX4_makeFirstBox_40 : decode cX4_makeFirstBox 40 = .ok (.invokevirtual 72, 3) := by decide +kernel
theorem dX4_makeFirstBox_43 : decode cX4_makeFirstBox 43 = .ok (.ifCond .ne 37, 3) := by decide +kernel
theorem dX4_makeFirstBox_46 : decode cX4_makeFirstBox 46 = .ok (.aload_n 0, 1) := by decide +kernel
theorem dX4_makeFirstBox_47 : decode cX4_makeFirstBox 47 = .ok (.getfield 9, 3) := by decide +kernel
theorem dX4_makeFirstBox_50 : decode cX4_makeFirstBox 50 = .ok (.iload_n 2, 1) := by decide +kernel
theorem dX4_makeFirstBox_51 : decode cX4_makeFirstBox 51 = .ok (.ldc2_w 76, 3) := by decide +kernel
theorem dX4_makeFirstBox_54 : decode cX4_makeFirstBox 54 = .ok (.aload_n 0, 1) := by decide +kernel
theorem dX4_makeFirstBox_55 : decode cX4_makeFirstBox 55 = .ok (.getfield 30, 3) := by decide +kernel
theorem dX4_makeFirstBox_58 : decode cX4_makeFirstBox 58 = .ok (.getfield 69, 3) := by decide +kernel
theorem dX4_makeFirstBox_61 : decode cX4_makeFirstBox 61 = .ok (.iload_n 3, 1) := by decide +kernel
theorem dX4_makeFirstBox_62 : decode cX4_makeFirstBox 62 = .ok (.iaload, 1) := by decide +kernel
theorem dX4_makeFirstBox_63 : decode cX4_makeFirstBox 63 = .ok (.i2l, 1) := by decide +kernel
theorem dX4_makeFirstBox_64 : decode cX4_makeFirstBox 64 = .ok (.lmul, 1) := by decide +kernel
theorem dX4_makeFirstBox_65 : decode cX4_makeFirstBox 65 = .ok (.aload_n 0, 1) := by decide +kernel
theorem dX4_makeFirstBox_66 : decode cX4_makeFirstBox 66 = .ok (.getfield 30, 3) := by decide +kernel
theorem dX4_makeFirstBox_69 : decode cX4_makeFirstBox 69 = .ok (.getfield 78, 3) := by decide +kernel
theorem dX4_makeFirstBox_72 : decode cX4_makeFirstBox 72 = .ok (.iload_n 3, 1) := by decide +kernel
theorem dX4_makeFirstBox_73 : decode cX4_makeFirstBox 73 = .ok (.iaload, 1) := by decide +kernel
theorem dX4_makeFirstBox_74 : decode cX4_makeFirstBox 74 = .ok (.i2l, 1) := by decide +kernel
theorem dX4_makeFirstBox_75 : decode cX4_makeFirstBox 75 = .ok (.ladd, 1) := by decide +kernel
theorem dX4_makeFirstBox_76 : decode cX4_makeFirstBox 76 = .ok (.lastore, 1) := by decide +kernel
theorem dX4_makeFirstBox_77 : decode cX4_makeFirstBox 77 = .ok (.iinc 2 1, 3) := by decide +kernel
theorem dX4_makeFirstBox_80 : decode cX4_makeFirstBox 80 = .ok (.iinc 3 1, 3) := by decide +kernel
theorem dX4_makeFirstBox_83 : decode cX4_makeFirstBox 83 = .ok (.goto (-67), 3) := by decide +kernel
theorem dX4_makeFirstBox_86 : decode cX4_makeFirstBox 86 = .ok (.iload_n 2, 1) := by decide +kernel
theorem dX4_makeFirstBox_87 : decode cX4_makeFirstBox 87 = .ok (.ifCond .le 26, 3) := by decide +kernel
theorem dX4_makeFirstBox_90 : decode cX4_makeFirstBox 90 = .ok (.iload_n 1, 1) := by decide +kernel
theorem dX4_makeFirstBox_91 : decode cX4_makeFirstBox 91 = .ok (.ifCond .le 22, 3) := by decide +kernel
theorem dX4_makeFirstBox_94 : decode cX4_makeFirstBox 94 = .ok (.aload_n 0, 1) := by decide +kernel
theorem dX4_makeFirstBox_95 : decode cX4_makeFirstBox 95 = .ok (.getfield 15, 3) := by decide +kernel
theorem dX4_makeFirstBox_98 : decode cX4_makeFirstBox 98 = .ok (.iconst 0, 1) := by decide +kernel
theorem dX4_makeFirstBox_99 : decode cX4_makeFirstBox 99 = .ok (.iconst 0, 1) := by decide +kernel
theorem dX4_makeFirstBox_100 : decode cX4_makeFirstBox 100 = .ok (.iastore, 1) := by decide +kernel
theorem dX4_makeFirstBox_101 : decode cX4_makeFirstBox 101 = .ok (.aload_n 0, 1) := by decide +kernel
theorem dX4_makeFirstBox_102 : decode cX4_makeFirstBox 102 = .ok (.getfield 19, 3) := by decide +kernel
theorem dX4_makeFirstBox_105 : decode cX4_makeFirstBox 105 = .ok (.iconst 0, 1) := by decide +kernel
theorem dX4_makeFirstBox_106 : decode cX4_makeFirstBox 106 = .ok (.iload_n 2, 1) := by decide +kernel
theorem dX4_makeFirstBox_107 : decode cX4_makeFirstBox 107 = .ok (.iastore, 1) := by decide +kernel
theorem dX4_makeFirstBox_108 : decode cX4_makeFirstBox 108 = .ok (.aload_n 0, 1) := by decide +kernel
theorem dX4_makeFirstBox_109 : decode cX4_makeFirstBox 109 = .ok (.iconst 1, 1) := by decide +kernel
theorem dX4_makeFirstBox_110 : decode cX4_makeFirstBox 110 = .ok (.putfield 22, 3) := by decide +kernel
theorem dX4_makeFirstBox_113 : decode cX4_makeFirstBox 113 = .ok (.return_, 1) := by decide +kernel
theorem dX4_cellColor_0 : decode cX4_cellColor 0 = .ok (.lload_n 0, 1) := by decide +kernel
theorem dX4_cellColor_1 : decode cX4_cellColor 1 = .ok (.ldc2_w 76, 3) := by decide +kernel
theorem dX4_cellColor_4 : decode cX4_cellColor 4 = .ok (.ldiv, 1) := by decide +kernel
theorem dX4_cellColor_5 : decode cX4_cellColor 5 = .ok (.l2i, 1) := by decide +kernel
theorem dX4_cellColor_6 : decode cX4_cellColor 6 = .ok (.ireturn, 1) := by decide +kernel
theorem dX4_cellNumber_0 : decode cX4_cellNumber 0 = .ok (.lload_n 0, 1) := by decide +kernel
theorem dX4_cellNumber_1 : decode cX4_cellNumber 1 = .ok (.ldc2_w 76, 3) := by decide +kernel
theorem dX4_cellNumber_4 : decode cX4_cellNumber 4 = .ok (.lrem, 1) := by decide +kernel
theorem dX4_cellNumber_5 : decode cX4_cellNumber 5 = .ok (.l2i, 1) := by decide +kernel
theorem dX4_cellNumber_6 : decode cX4_cellNumber 6 = .ok (.ireturn, 1) := by decide +kernel
theorem dX4_chooseBox_0 : decode cX4_chooseBox 0 = .ok (.iconst (-1), 1) := by decide +kernel
theorem dX4_chooseBox_1 : decode cX4_chooseBox 1 = .ok (.istore_n 2, 1) := by decide +kernel
theorem dX4_chooseBox_2 : decode cX4_chooseBox 2 = .ok (.lconst 0, 1) := by decide +kernel
theorem dX4_chooseBox_3 : decode cX4_chooseBox 3 = .ok (.lstore_n 3, 1) := by decide +kernel
theorem dX4_chooseBox_4 : decode cX4_chooseBox 4 = .ok (.iconst 0, 1) := by decide +kernel
theorem dX4_chooseBox_5 : decode cX4_chooseBox 5 = .ok (.istore 5, 2) := by decide +kernel
theorem dX4_chooseBox_7 : decode cX4_chooseBox 7 = .ok (.iload 5, 2) := by decide +kernel
theorem dX4_chooseBox_9 : decode cX4_chooseBox 9 = .ok (.aload_n 0, 1) := by decide +kernel
theorem dX4_chooseBox_10 : decode cX4_chooseBox 10 = .ok (.getfield 22, 3) := by decide +kernel
theorem dX4_chooseBox_13 : decode cX4_chooseBox 13 = .ok (.if_icmp .ge 58, 3) := by decide +kernel
theorem dX4_chooseBox_16 : decode cX4_chooseBox 16 = .ok (.aload_n 0, 1) := by decide +kernel
theorem dX4_chooseBox_17 : decode cX4_chooseBox 17 = .ok (.getfield 19, 3) := by decide +kernel
theorem dX4_chooseBox_20 : decode cX4_chooseBox 20 = .ok (.iload 5, 2) := by decide +kernel
theorem dX4_chooseBox_22 : decode cX4_chooseBox 22 = .ok (.iaload, 1) := by decide +kernel
theorem dX4_chooseBox_23 : decode cX4_chooseBox 23 = .ok (.aload_n 0, 1) := by decide +kernel
theorem dX4_chooseBox_24 : decode cX4_chooseBox 24 = .ok (.getfield 15, 3) := by decide +kernel
theorem dX4_chooseBox_27 : decode cX4_chooseBox 27 = .ok (.iload 5, 2) := by decide +kernel
theorem dX4_chooseBox_29 : decode cX4_chooseBox 29 = .ok (.iaload, 1) := by decide +kernel
theorem dX4_chooseBox_30 : decode cX4_chooseBox 30 = .ok (.isub, 1) := by decide +kernel
theorem dX4_chooseBox_31 : decode cX4_chooseBox 31 = .ok (.iconst 2, 1) := by decide +kernel
theorem dX4_chooseBox_32 : decode cX4_chooseBox 32 = .ok (.if_icmp .ge 6, 3) := by decide +kernel
theorem dX4_chooseBox_35 : decode cX4_chooseBox 35 = .ok (.goto 30, 3) := by decide +kernel
theorem dX4_chooseBox_38 : decode cX4_chooseBox 38 = .ok (.aload_n 0, 1) := by decide +kernel
theorem dX4_chooseBox_39 : decode cX4_chooseBox 39 = .ok (.iload 5, 2) := by decide +kernel
theorem dX4_chooseBox_41 : decode cX4_chooseBox 41 = .ok (.iload_n 1, 1) := by decide +kernel
theorem dX4_chooseBox_42 : decode cX4_chooseBox 42 = .ok (.invokevirtual 81, 3) := by decide +kernel
theorem dX4_chooseBox_45 : decode cX4_chooseBox 45 = .ok (.lstore 6, 2) := by decide +kernel
theorem dX4_chooseBox_47 : decode cX4_chooseBox 47 = .ok (.iload_n 2, 1) := by decide +kernel
theorem dX4_chooseBox_48 : decode cX4_chooseBox 48 = .ok (.iconst (-1), 1) := by decide +kernel
theorem dX4_chooseBox_49 : decode cX4_chooseBox 49 = .ok (.if_icmp .eq 10, 3) := by decide +kernel
theorem dX4_chooseBox_52 : decode cX4_chooseBox 52 = .ok (.lload 6, 2) := by decide +kernel
theorem dX4_chooseBox_54 : decode cX4_chooseBox 54 = .ok (.lload_n 3, 1) := by decide +kernel
theorem dX4_chooseBox_55 : decode cX4_chooseBox 55 = .ok (.lcmp, 1) := by decide +kernel
theorem dX4_chooseBox_56 : decode cX4_chooseBox 56 = .ok (.ifCond .le 9, 3) := by decide +kernel
theorem dX4_chooseBox_59 : decode cX4_chooseBox 59 = .ok (.iload 5, 2) := by decide +kernel
theorem dX4_chooseBox_61 : decode cX4_chooseBox 61 = .ok (.istore_n 2, 1) := by decide +kernel
theorem dX4_chooseBox_62 : decode cX4_chooseBox 62 = .ok (.lload 6, 2) := by decide +kernel
theorem dX4_chooseBox_64 : decode cX4_chooseBox 64 = .ok (.lstore_n 3, 1) := by decide +kernel
theorem dX4_chooseBox_65 : decode cX4_chooseBox 65 = .ok (.iinc 5 1, 3) := by decide +kernel
theorem dX4_chooseBox_68 : decode cX4_chooseBox 68 = .ok (.goto (-61), 3) := by decide +kernel
theorem dX4_chooseBox_71 : decode cX4_chooseBox 71 = .ok (.iload_n 2, 1) := by decide +kernel
theorem dX4_chooseBox_72 : decode cX4_chooseBox 72 = .ok (.ireturn, 1) := by decide +kernel
theorem dX4_measure_0 : decode cX4_measure 0 = .ok (.iload_n 2, 1) := by decide +kernel
theorem dX4_measure_1 : decode cX4_measure 1 = .ok (.ifCond .ne 10, 3) := by decide +kernel
theorem dX4_measure_4 : decode cX4_measure 4 = .ok (.aload_n 0, 1) := by decide +kernel
theorem dX4_measure_5 : decode cX4_measure 5 = .ok (.iload_n 1, 1) := by decide +kernel
theorem dX4_measure_6 : decode cX4_measure 6 = .ok (.invokevirtual 85, 3) := by decide +kernel
theorem dX4_measure_9 : decode cX4_measure 9 = .ok (.i2l, 1) := by decide +kernel
theorem dX4_measure_10 : decode cX4_measure 10 = .ok (.lreturn, 1) := by decide +kernel
theorem dX4_measure_11 : decode cX4_measure 11 = .ok (.iload_n 2, 1) := by decide +kernel
theorem dX4_measure_12 : decode cX4_measure 12 = .ok (.iconst 1, 1) := by decide +kernel
theorem dX4_measure_13 : decode cX4_measure 13 = .ok (.if_icmp .ne 15, 3) := by decide +kernel
theorem dX4_measure_16 : decode cX4_measure 16 = .ok (.aload_n 0, 1) := by decide +kernel
theorem dX4_measure_17 : decode cX4_measure 17 = .ok (.iload_n 1, 1) := by decide +kernel
theorem dX4_measure_18 : decode cX4_measure 18 = .ok (.aload_n 0, 1) := by decide +kernel
theorem dX4_measure_19 : decode cX4_measure 19 = .ok (.iload_n 1, 1) := by decide +kernel
theorem dX4_measure_20 : decode cX4_measure 20 = .ok (.invokevirtual 88, 3) := by decide +kernel
theorem dX4_measure_23 : decode cX4_measure 23 = .ok (.invokevirtual 91, 3) := by decide +kernel
theorem dX4_measure_26 : decode cX4_measure 26 = .ok (.i2l, 1) := by decide +kernel
theorem dX4_measure_27 : decode cX4_measure 27 = .ok (.lreturn, 1) := by decide +kernel
theorem dX4_measure_28 : decode cX4_measure 28 = .ok (.aload_n 0, 1) := by decide +kernel
theorem dX4_measure_29 : decode cX4_measure 29 = .ok (.iload_n 1, 1) := by decide +kernel
theorem dX4_measure_30 : decode cX4_measure 30 = .ok (.iconst 0, 1) := by decide +kernel
theorem dX4_measure_31 : decode cX4_measure 31 = .ok (.invokevirtual 94, 3) := by decide +kernel
theorem dX4_measure_34 : decode cX4_measure 34 = .ok (.aload_n 0, 1) := by decide +kernel
theorem dX4_measure_35 : decode cX4_measure 35 = .ok (.iload_n 1, 1) := by decide +kernel
theorem dX4_measure_36 : decode cX4_measure 36 = .ok (.iconst 1, 1) := by decide +kernel
theorem dX4_measure_37 : decode cX4_measure 37 = .ok (.invokevirtual 94, 3) := by decide +kernel
theorem dX4_measure_40 : decode cX4_measure 40 = .ok (.ladd, 1) := by decide +kernel
theorem dX4_measure_41 : decode cX4_measure 41 = .ok (.aload_n 0, 1) := by decide +kernel
theorem dX4_measure_42 : decode cX4_measure 42 = .ok (.iload_n 1, 1) := by decide +kernel
theorem dX4_measure_43 : decode cX4_measure 43 = .ok (.iconst 2, 1) := by decide +kernel
theorem dX4_measure_44 : decode cX4_measure 44 = .ok (.invokevirtual 94, 3) := by decide +kernel
theorem dX4_measure_47 : decode cX4_measure 47 = .ok (.ladd, 1) := by decide +kernel
theorem dX4_measure_48 : decode cX4_measure 48 = .ok (.lreturn, 1) := by decide +kernel
theorem dX4_pixelsIn_0 : decode cX4_pixelsIn 0 = .ok (.iconst 0, 1) := by decide +kernel
theorem dX4_pixelsIn_1 : decode cX4_pixelsIn 1 = .ok (.istore_n 2, 1) := by decide +kernel
theorem dX4_pixelsIn_2 : decode cX4_pixelsIn 2 = .ok (.aload_n 0, 1) := by decide +kernel
theorem dX4_pixelsIn_3 : decode cX4_pixelsIn 3 = .ok (.getfield 15, 3) := by decide +kernel
theorem dX4_pixelsIn_6 : decode cX4_pixelsIn 6 = .ok (.iload_n 1, 1) := by decide +kernel
theorem dX4_pixelsIn_7 : decode cX4_pixelsIn 7 = .ok (.iaload, 1) := by decide +kernel
theorem dX4_pixelsIn_8 : decode cX4_pixelsIn 8 = .ok (.istore_n 3, 1) := by decide +kernel
theorem dX4_pixelsIn_9 : decode cX4_pixelsIn 9 = .ok (.iload_n 3, 1) := by decide +kernel
theorem dX4_pixelsIn_10 : decode cX4_pixelsIn 10 = .ok (.aload_n 0, 1) := by decide +kernel
theorem dX4_pixelsIn_11 : decode cX4_pixelsIn 11 = .ok (.getfield 19, 3) := by decide +kernel
theorem dX4_pixelsIn_14 : decode cX4_pixelsIn 14 = .ok (.iload_n 1, 1) := by decide +kernel
theorem dX4_pixelsIn_15 : decode cX4_pixelsIn 15 = .ok (.iaload, 1) := by decide +kernel
theorem dX4_pixelsIn_16 : decode cX4_pixelsIn 16 = .ok (.if_icmp .ge 21, 3) := by decide +kernel
theorem dX4_pixelsIn_19 : decode cX4_pixelsIn 19 = .ok (.iload_n 2, 1) := by decide +kernel
theorem dX4_pixelsIn_20 : decode cX4_pixelsIn 20 = .ok (.aload_n 0, 1) := by decide +kernel
theorem dX4_pixelsIn_21 : decode cX4_pixelsIn 21 = .ok (.getfield 9, 3) := by decide +kernel
theorem dX4_pixelsIn_24 : decode cX4_pixelsIn 24 = .ok (.iload_n 3, 1) := by decide +kernel
theorem dX4_pixelsIn_25 : decode cX4_pixelsIn 25 = .ok (.laload, 1) := by decide +kernel
theorem dX4_pixelsIn_26 : decode cX4_pixelsIn 26 = .ok (.invokestatic 97, 3) := by decide +kernel
theorem dX4_pixelsIn_29 : decode cX4_pixelsIn 29 = .ok (.iadd, 1) := by decide +kernel
theorem dX4_pixelsIn_30 : decode cX4_pixelsIn 30 = .ok (.istore_n 2, 1) := by decide +kernel
theorem dX4_pixelsIn_31 : decode cX4_pixelsIn 31 = .ok (.iinc 3 1, 3) := by decide +kernel
theorem dX4_pixelsIn_34 : decode cX4_pixelsIn 34 = .ok (.goto (-25), 3) := by decide +kernel
theorem dX4_pixelsIn_37 : decode cX4_pixelsIn 37 = .ok (.iload_n 2, 1) := by decide +kernel
theorem dX4_pixelsIn_38 : decode cX4_pixelsIn 38 = .ok (.ireturn, 1) := by decide +kernel
theorem dX4_range_0 : decode cX4_range 0 = .ok (.sipush 255, 3) := by decide +kernel
theorem dX4_range_3 : decode cX4_range 3 = .ok (.istore_n 3, 1) := by decide +kernel
theorem dX4_range_4 : decode cX4_range 4 = .ok (.iconst 0, 1) := by decide +kernel
theorem dX4_range_5 : decode cX4_range 5 = .ok (.istore 4, 2) := by decide +kernel
theorem dX4_range_7 : decode cX4_range 7 = .ok (.aload_n 0, 1) := by decide +kernel
theorem dX4_range_8 : decode cX4_range 8 = .ok (.getfield 15, 3) := by decide +kernel
theorem dX4_range_11 : decode cX4_range 11 = .ok (.iload_n 1, 1) := by decide +kernel
theorem dX4_range_12 : decode cX4_range 12 = .ok (.iaload, 1) := by decide +kernel
theorem dX4_range_13 : decode cX4_range 13 = .ok (.istore 5, 2) := by decide +kernel
theorem dX4_range_15 : decode cX4_range 15 = .ok (.iload 5, 2) := by decide +kernel
theorem dX4_range_17 : decode cX4_range 17 = .ok (.aload_n 0, 1) := by decide +kernel
theorem dX4_range_18 : decode cX4_range 18 = .ok (.getfield 19, 3) := by decide +kernel
theorem dX4_range_21 : decode cX4_range 21 = .ok (.iload_n 1, 1) := by decide +kernel
theorem dX4_range_22 : decode cX4_range 22 = .ok (.iaload, 1) := by decide +kernel
theorem dX4_range_23 : decode cX4_range 23 = .ok (.if_icmp .ge 41, 3) := by decide +kernel
theorem dX4_range_26 : decode cX4_range 26 = .ok (.aload_n 0, 1) := by decide +kernel
theorem dX4_range_27 : decode cX4_range 27 = .ok (.getfield 9, 3) := by decide +kernel
theorem dX4_range_30 : decode cX4_range 30 = .ok (.iload 5, 2) := by decide +kernel
theorem dX4_range_32 : decode cX4_range 32 = .ok (.laload, 1) := by decide +kernel
theorem dX4_range_33 : decode cX4_range 33 = .ok (.invokestatic 101, 3) := by decide +kernel
theorem dX4_range_36 : decode cX4_range 36 = .ok (.iload_n 2, 1) := by decide +kernel
theorem dX4_range_37 : decode cX4_range 37 = .ok (.invokestatic 104, 3) := by decide +kernel
theorem dX4_range_40 : decode cX4_range 40 = .ok (.istore 6, 2) := by decide +kernel
theorem dX4_range_42 : decode cX4_range 42 = .ok (.iload_n 3, 1) := by decide +kernel
theorem dX4_range_43 : decode cX4_range 43 = .ok (.iload 6, 2) := by decide +kernel
theorem dX4_range_45 : decode cX4_range 45 = .ok (.invokestatic 39, 3) := by decide +kernel
theorem dX4_range_48 : decode cX4_range 48 = .ok (.istore_n 3, 1) := by decide +kernel
theorem dX4_range_49 : decode cX4_range 49 = .ok (.iload 4, 2) := by decide +kernel
theorem dX4_range_51 : decode cX4_range 51 = .ok (.iload 6, 2) := by decide +kernel
theorem dX4_range_53 : decode cX4_range 53 = .ok (.invokestatic 107, 3) := by decide +kernel
theorem dX4_range_56 : decode cX4_range 56 = .ok (.istore 4, 2) := by decide +kernel
theorem dX4_range_58 : decode cX4_range 58 = .ok (.iinc 5 1, 3) := by decide +kernel
theorem dX4_range_61 : decode cX4_range 61 = .ok (.goto (-46), 3) := by decide +kernel
theorem dX4_range_64 : decode cX4_range 64 = .ok (.iload 4, 2) := by decide +kernel
theorem dX4_range_66 : decode cX4_range 66 = .ok (.iload_n 3, 1) := by decide +kernel
theorem dX4_range_67 : decode cX4_range 67 = .ok (.isub, 1) := by decide +kernel
theorem dX4_range_68 : decode cX4_range 68 = .ok (.ireturn, 1) := by decide +kernel
theorem dX4_widestChannel_0 : decode cX4_widestChannel 0 = .ok (.iconst 0, 1) := by decide +kernel
theorem dX4_widestChannel_1 : decode cX4_widestChannel 1 = .ok (.istore_n 2, 1) := by decide +kernel
theorem dX4_widestChannel_2 : decode cX4_widestChannel 2 = .ok (.iconst 1, 1) := by decide +kernel
theorem dX4_widestChannel_3 : decode cX4_widestChannel 3 = .ok (.istore_n 3, 1) := by decide +kernel
theorem dX4_widestChannel_4 : decode cX4_widestChannel 4 = .ok (.iload_n 3, 1) := by decide +kernel
theorem dX4_widestChannel_5 : decode cX4_widestChannel 5 = .ok (.iconst 3, 1) := by decide +kernel
theorem dX4_widestChannel_6 : decode cX4_widestChannel 6 = .ok (.if_icmp .ge 26, 3) := by decide +kernel
theorem dX4_widestChannel_9 : decode cX4_widestChannel 9 = .ok (.aload_n 0, 1) := by decide +kernel
theorem dX4_widestChannel_10 : decode cX4_widestChannel 10 = .ok (.iload_n 1, 1) := by decide +kernel
theorem dX4_widestChannel_11 : decode cX4_widestChannel 11 = .ok (.iload_n 3, 1) := by decide +kernel
theorem dX4_widestChannel_12 : decode cX4_widestChannel 12 = .ok (.invokevirtual 91, 3) := by decide +kernel
theorem dX4_widestChannel_15 : decode cX4_widestChannel 15 = .ok (.aload_n 0, 1) := by decide +kernel
theorem dX4_widestChannel_16 : decode cX4_widestChannel 16 = .ok (.iload_n 1, 1) := by decide +kernel
theorem dX4_widestChannel_17 : decode cX4_widestChannel 17 = .ok (.iload_n 2, 1) := by decide +kernel
theorem dX4_widestChannel_18 : decode cX4_widestChannel 18 = .ok (.invokevirtual 91, 3) := by decide +kernel
theorem dX4_widestChannel_21 : decode cX4_widestChannel 21 = .ok (.if_icmp .le 5, 3) := by decide +kernel
theorem dX4_widestChannel_24 : decode cX4_widestChannel 24 = .ok (.iload_n 3, 1) := by decide +kernel
theorem dX4_widestChannel_25 : decode cX4_widestChannel 25 = .ok (.istore_n 2, 1) := by decide +kernel
theorem dX4_widestChannel_26 : decode cX4_widestChannel 26 = .ok (.iinc 3 1, 3) := by decide +kernel
theorem dX4_widestChannel_29 : decode cX4_widestChannel 29 = .ok (.goto (-25), 3) := by decide +kernel
theorem dX4_widestChannel_32 : decode cX4_widestChannel 32 = .ok (.iload_n 2, 1) := by decide +kernel
theorem dX4_widestChannel_33 : decode cX4_widestChannel 33 = .ok (.ireturn, 1) := by decide +kernel
theorem dX4_sum_0 : decode cX4_sum 0 = .ok (.iconst 0, 1) := by decide +kernel
theorem dX4_sum_1 : decode cX4_sum 1 = .ok (.istore_n 3, 1) := by decide +kernel
theorem dX4_sum_2 : decode cX4_sum 2 = .ok (.aload_n 0, 1) := by decide +kernel
theorem dX4_sum_3 : decode cX4_sum 3 = .ok (.getfield 15, 3) := by decide +kernel
theorem dX4_sum_6 : decode cX4_sum 6 = .ok (.iload_n 1, 1) := by decide +kernel
theorem dX4_sum_7 : decode cX4_sum 7 = .ok (.iaload, 1) := by decide +kernel
theorem dX4_sum_8 : decode cX4_sum 8 = .ok (.istore 4, 2) := by decide +kernel
theorem dX4_sum_10 : decode cX4_sum 10 = .ok (.iload 4, 2) := by decide +kernel
theorem dX4_sum_12 : decode cX4_sum 12 = .ok (.aload_n 0, 1) := by decide +kernel
theorem dX4_sum_13 : decode cX4_sum 13 = .ok (.getfield 19, 3) := by decide +kernel
theorem dX4_sum_16 : decode cX4_sum 16 = .ok (.iload_n 1, 1) := by decide +kernel
theorem dX4_sum_17 : decode cX4_sum 17 = .ok (.iaload, 1) := by decide +kernel
theorem dX4_sum_18 : decode cX4_sum 18 = .ok (.if_icmp .ge 37, 3) := by decide +kernel
theorem dX4_sum_21 : decode cX4_sum 21 = .ok (.iload_n 3, 1) := by decide +kernel
theorem dX4_sum_22 : decode cX4_sum 22 = .ok (.aload_n 0, 1) := by decide +kernel
theorem dX4_sum_23 : decode cX4_sum 23 = .ok (.getfield 9, 3) := by decide +kernel
theorem dX4_sum_26 : decode cX4_sum 26 = .ok (.iload 4, 2) := by decide +kernel
theorem dX4_sum_28 : decode cX4_sum 28 = .ok (.laload, 1) := by decide +kernel
theorem dX4_sum_29 : decode cX4_sum 29 = .ok (.invokestatic 97, 3) := by decide +kernel
theorem dX4_sum_32 : decode cX4_sum 32 = .ok (.aload_n 0, 1) := by decide +kernel
theorem dX4_sum_33 : decode cX4_sum 33 = .ok (.getfield 9, 3) := by decide +kernel
theorem dX4_sum_36 : decode cX4_sum 36 = .ok (.iload 4, 2) := by decide +kernel
theorem dX4_sum_38 : decode cX4_sum 38 = .ok (.laload, 1) := by decide +kernel
theorem dX4_sum_39 : decode cX4_sum 39 = .ok (.invokestatic 101, 3) := by decide +kernel
theorem dX4_sum_42 : decode cX4_sum 42 = .ok (.iload_n 2, 1) := by decide +kernel
theorem dX4_sum_43 : decode cX4_sum 43 = .ok (.invokestatic 104, 3) := by decide +kernel
theorem dX4_sum_46 : decode cX4_sum 46 = .ok (.imul, 1) := by decide +kernel
theorem dX4_sum_47 : decode cX4_sum 47 = .ok (.iadd, 1) := by decide +kernel
theorem dX4_sum_48 : decode cX4_sum 48 = .ok (.istore_n 3, 1) := by decide +kernel
theorem dX4_sum_49 : decode cX4_sum 49 = .ok (.iinc 4 1, 3) := by decide +kernel
theorem dX4_sum_52 : decode cX4_sum 52 = .ok (.goto (-42), 3) := by decide +kernel
theorem dX4_sum_55 : decode cX4_sum 55 = .ok (.iload_n 3, 1) := by decide +kernel
theorem dX4_sum_56 : decode cX4_sum 56 = .ok (.ireturn, 1) := by decide +kernel
theorem dX4_spread_0 : decode cX4_spread 0 = .ok (.lconst 0, 1) := by decide +kernel
theorem dX4_spread_1 : decode cX4_spread 1 = .ok (.lstore_n 3, 1) := by decide +kernel
theorem dX4_spread_2 : decode cX4_spread 2 = .ok (.aload_n 0, 1) := by decide +kernel
theorem dX4_spread_3 : decode cX4_spread 3 = .ok (.getfield 15, 3) := by decide +kernel
theorem dX4_spread_6 : decode cX4_spread 6 = .ok (.iload_n 1, 1) := by decide +kernel
theorem dX4_spread_7 : decode cX4_spread 7 = .ok (.iaload, 1) := by decide +kernel
theorem dX4_spread_8 : decode cX4_spread 8 = .ok (.istore 5, 2) := by decide +kernel
theorem dX4_spread_10 : decode cX4_spread 10 = .ok (.iload 5, 2) := by decide +kernel
theorem dX4_spread_12 : decode cX4_spread 12 = .ok (.aload_n 0, 1) := by decide +kernel
theorem dX4_spread_13 : decode cX4_spread 13 = .ok (.getfield 19, 3) := by decide +kernel
theorem dX4_spread_16 : decode cX4_spread 16 = .ok (.iload_n 1, 1) := by decide +kernel
theorem dX4_spread_17 : decode cX4_spread 17 = .ok (.iaload, 1) := by decide +kernel
theorem dX4_spread_18 : decode cX4_spread 18 = .ok (.if_icmp .ge 46, 3) := by decide +kernel
theorem dX4_spread_21 : decode cX4_spread 21 = .ok (.aload_n 0, 1) := by decide +kernel
theorem dX4_spread_22 : decode cX4_spread 22 = .ok (.getfield 9, 3) := by decide +kernel
theorem dX4_spread_25 : decode cX4_spread 25 = .ok (.iload 5, 2) := by decide +kernel
theorem dX4_spread_27 : decode cX4_spread 27 = .ok (.laload, 1) := by decide +kernel
theorem dX4_spread_28 : decode cX4_spread 28 = .ok (.invokestatic 101, 3) := by decide +kernel
theorem dX4_spread_31 : decode cX4_spread 31 = .ok (.iload_n 2, 1) := by decide +kernel
theorem dX4_spread_32 : decode cX4_spread 32 = .ok (.invokestatic 104, 3) := by decide +kernel
theorem dX4_spread_35 : decode cX4_spread 35 = .ok (.i2l, 1) := by decide +kernel
theorem dX4_spread_36 : decode cX4_spread 36 = .ok (.lstore 6, 2) := by decide +kernel
theorem dX4_spread_38 : decode cX4_spread 38 = .ok (.lload_n 3, 1) := by decide +kernel
theorem dX4_spread_39 : decode cX4_spread 39 = .ok (.aload_n 0, 1) := by decide +kernel
theorem dX4_spread_40 : decode cX4_spread 40 = .ok (.getfield 9, 3) := by decide +kernel
theorem dX4_spread_43 : decode cX4_spread 43 = .ok (.iload 5, 2) := by decide +kernel
theorem dX4_spread_45 : decode cX4_spread 45 = .ok (.laload, 1) := by decide +kernel
theorem dX4_spread_46 : decode cX4_spread 46 = .ok (.invokestatic 97, 3) := by decide +kernel
theorem dX4_spread_49 : decode cX4_spread 49 = .ok (.i2l, 1) := by decide +kernel
theorem dX4_spread_50 : decode cX4_spread 50 = .ok (.lload 6, 2) := by decide +kernel
theorem dX4_spread_52 : decode cX4_spread 52 = .ok (.lmul, 1) := by decide +kernel
theorem dX4_spread_53 : decode cX4_spread 53 = .ok (.lload 6, 2) := by decide +kernel
theorem dX4_spread_55 : decode cX4_spread 55 = .ok (.lmul, 1) := by decide +kernel
theorem dX4_spread_56 : decode cX4_spread 56 = .ok (.ladd, 1) := by decide +kernel
theorem dX4_spread_57 : decode cX4_spread 57 = .ok (.lstore_n 3, 1) := by decide +kernel
theorem dX4_spread_58 : decode cX4_spread 58 = .ok (.iinc 5 1, 3) := by decide +kernel
theorem dX4_spread_61 : decode cX4_spread 61 = .ok (.goto (-51), 3) := by decide +kernel
theorem dX4_spread_64 : decode cX4_spread 64 = .ok (.aload_n 0, 1) := by decide +kernel
theorem dX4_spread_65 : decode cX4_spread 65 = .ok (.iload_n 1, 1) := by decide +kernel
theorem dX4_spread_66 : decode cX4_spread 66 = .ok (.iload_n 2, 1) := by decide +kernel
theorem dX4_spread_67 : decode cX4_spread 67 = .ok (.invokevirtual 110, 3) := by decide +kernel
theorem dX4_spread_70 : decode cX4_spread 70 = .ok (.i2l, 1) := by decide +kernel
theorem dX4_spread_71 : decode cX4_spread 71 = .ok (.lstore 5, 2) := by decide +kernel
theorem dX4_spread_73 : decode cX4_spread 73 = .ok (.aload_n 0, 1) := by decide +kernel
theorem dX4_spread_74 : decode cX4_spread 74 = .ok (.iload_n 1, 1) := by decide +kernel
theorem dX4_spread_75 : decode cX4_spread 75 = .ok (.invokevirtual 85, 3) := by decide +kernel
theorem dX4_spread_78 : decode cX4_spread 78 = .ok (.i2l, 1) := by decide +kernel
theorem dX4_spread_79 : decode cX4_spread 79 = .ok (.lload_n 3, 1) := by decide +kernel
theorem dX4_spread_80 : decode cX4_spread 80 = .ok (.lmul, 1) := by decide +kernel
theorem dX4_spread_81 : decode cX4_spread 81 = .ok (.lload 5, 2) := by decide +kernel
theorem dX4_spread_83 : decode cX4_spread 83 = .ok (.lload 5, 2) := by decide +kernel
theorem dX4_spread_85 : decode cX4_spread 85 = .ok (.lmul, 1) := by decide +kernel
theorem dX4_spread_86 : decode cX4_spread 86 = .ok (.lsub, 1) := by decide +kernel
theorem dX4_spread_87 : decode cX4_spread 87 = .ok (.lreturn, 1) := by decide +kernel
theorem dX4_meanColor_0 : decode cX4_meanColor 0 = .ok (.aload_n 0, 1) := by decide +kernel
theorem dX4_meanColor_1 : decode cX4_meanColor 1 = .ok (.iload_n 1, 1) := by decide +kernel
theorem dX4_meanColor_2 : decode cX4_meanColor 2 = .ok (.invokevirtual 85, 3) := by decide +kernel
theorem dX4_meanColor_5 : decode cX4_meanColor 5 = .ok (.istore_n 2, 1) := by decide +kernel
theorem dX4_meanColor_6 : decode cX4_meanColor 6 = .ok (.aload_n 0, 1) := by decide +kernel
theorem dX4_meanColor_7 : decode cX4_meanColor 7 = .ok (.iload_n 1, 1) := by decide +kernel
theorem dX4_meanColor_8 : decode cX4_meanColor 8 = .ok (.iconst 0, 1) := by decide +kernel
theorem dX4_meanColor_9 : decode cX4_meanColor 9 = .ok (.invokevirtual 110, 3) := by decide +kernel
theorem dX4_meanColor_12 : decode cX4_meanColor 12 = .ok (.iload_n 2, 1) := by decide +kernel
theorem dX4_meanColor_13 : decode cX4_meanColor 13 = .ok (.invokestatic 113, 3) := by decide +kernel
theorem dX4_meanColor_16 : decode cX4_meanColor 16 = .ok (.aload_n 0, 1) := by decide +kernel
theorem dX4_meanColor_17 : decode cX4_meanColor 17 = .ok (.iload_n 1, 1) := by decide +kernel
theorem dX4_meanColor_18 : decode cX4_meanColor 18 = .ok (.iconst 1, 1) := by decide +kernel
theorem dX4_meanColor_19 : decode cX4_meanColor 19 = .ok (.invokevirtual 110, 3) := by decide +kernel
theorem dX4_meanColor_22 : decode cX4_meanColor 22 = .ok (.iload_n 2, 1) := by decide +kernel
theorem dX4_meanColor_23 : decode cX4_meanColor 23 = .ok (.invokestatic 113, 3) := by decide +kernel
theorem dX4_meanColor_26 : decode cX4_meanColor 26 = .ok (.aload_n 0, 1) := by decide +kernel
theorem dX4_meanColor_27 : decode cX4_meanColor 27 = .ok (.iload_n 1, 1) := by decide +kernel
theorem dX4_meanColor_28 : decode cX4_meanColor 28 = .ok (.iconst 2, 1) := by decide +kernel
theorem dX4_meanColor_29 : decode cX4_meanColor 29 = .ok (.invokevirtual 110, 3) := by decide +kernel
theorem dX4_meanColor_32 : decode cX4_meanColor 32 = .ok (.iload_n 2, 1) := by decide +kernel
theorem dX4_meanColor_33 : decode cX4_meanColor 33 = .ok (.invokestatic 113, 3) := by decide +kernel
theorem dX4_meanColor_36 : decode cX4_meanColor 36 = .ok (.invokestatic 116, 3) := by decide +kernel
theorem dX4_meanColor_39 : decode cX4_meanColor 39 = .ok (.ireturn, 1) := by decide +kernel
theorem dX4_split_0 : decode cX4_split 0 = .ok (.aload_n 0, 1) := by decide +kernel
theorem dX4_split_1 : decode cX4_split 1 = .ok (.getfield 22, 3) := by decide +kernel
theorem dX4_split_4 : decode cX4_split 4 = .ok (.bipush 16, 2) := by decide +kernel
theorem dX4_split_6 : decode cX4_split 6 = .ok (.if_icmp .lt 4, 3) := by decide +kernel
theorem dX4_split_9 : decode cX4_split 9 = .ok (.return_, 1) := by decide +kernel
theorem dX4_split_10 : decode cX4_split 10 = .ok (.aload_n 0, 1) := by decide +kernel
theorem dX4_split_11 : decode cX4_split 11 = .ok (.iload_n 1, 1) := by decide +kernel
theorem dX4_split_12 : decode cX4_split 12 = .ok (.aload_n 0, 1) := by decide +kernel
theorem dX4_split_13 : decode cX4_split 13 = .ok (.iload_n 1, 1) := by decide +kernel
theorem dX4_split_14 : decode cX4_split 14 = .ok (.invokevirtual 88, 3) := by decide +kernel
theorem dX4_split_17 : decode cX4_split 17 = .ok (.invokevirtual 120, 3) := by decide +kernel
theorem dX4_split_20 : decode cX4_split 20 = .ok (.aload_n 0, 1) := by decide +kernel
theorem dX4_split_21 : decode cX4_split 21 = .ok (.iload_n 1, 1) := by decide +kernel
theorem dX4_split_22 : decode cX4_split 22 = .ok (.invokevirtual 124, 3) := by decide +kernel
theorem dX4_split_25 : decode cX4_split 25 = .ok (.istore_n 2, 1) := by decide +kernel
theorem dX4_split_26 : decode cX4_split 26 = .ok (.aload_n 0, 1) := by decide +kernel
theorem dX4_split_27 : decode cX4_split 27 = .ok (.getfield 15, 3) := by decide +kernel
theorem dX4_split_30 : decode cX4_split 30 = .ok (.aload_n 0, 1) := by decide +kernel
theorem dX4_split_31 : decode cX4_split 31 = .ok (.getfield 22, 3) := by decide +kernel
theorem dX4_split_34 : decode cX4_split 34 = .ok (.iload_n 2, 1) := by decide +kernel
theorem dX4_split_35 : decode cX4_split 35 = .ok (.iastore, 1) := by decide +kernel
theorem dX4_split_36 : decode cX4_split 36 = .ok (.aload_n 0, 1) := by decide +kernel
theorem dX4_split_37 : decode cX4_split 37 = .ok (.getfield 19, 3) := by decide +kernel
theorem dX4_split_40 : decode cX4_split 40 = .ok (.aload_n 0, 1) := by decide +kernel
theorem dX4_split_41 : decode cX4_split 41 = .ok (.getfield 22, 3) := by decide +kernel
theorem dX4_split_44 : decode cX4_split 44 = .ok (.aload_n 0, 1) := by decide +kernel
theorem dX4_split_45 : decode cX4_split 45 = .ok (.getfield 19, 3) := by decide +kernel
theorem dX4_split_48 : decode cX4_split 48 = .ok (.iload_n 1, 1) := by decide +kernel
theorem dX4_split_49 : decode cX4_split 49 = .ok (.iaload, 1) := by decide +kernel
theorem dX4_split_50 : decode cX4_split 50 = .ok (.iastore, 1) := by decide +kernel
theorem dX4_split_51 : decode cX4_split 51 = .ok (.aload_n 0, 1) := by decide +kernel
theorem dX4_split_52 : decode cX4_split 52 = .ok (.getfield 19, 3) := by decide +kernel
theorem dX4_split_55 : decode cX4_split 55 = .ok (.iload_n 1, 1) := by decide +kernel
theorem dX4_split_56 : decode cX4_split 56 = .ok (.iload_n 2, 1) := by decide +kernel
theorem dX4_split_57 : decode cX4_split 57 = .ok (.iastore, 1) := by decide +kernel
theorem dX4_split_58 : decode cX4_split 58 = .ok (.aload_n 0, 1) := by decide +kernel
theorem dX4_split_59 : decode cX4_split 59 = .ok (.dup, 1) := by decide +kernel
theorem dX4_split_60 : decode cX4_split 60 = .ok (.getfield 22, 3) := by decide +kernel
theorem dX4_split_63 : decode cX4_split 63 = .ok (.iconst 1, 1) := by decide +kernel
theorem dX4_split_64 : decode cX4_split 64 = .ok (.iadd, 1) := by decide +kernel
theorem dX4_split_65 : decode cX4_split 65 = .ok (.putfield 22, 3) := by decide +kernel
theorem dX4_split_68 : decode cX4_split 68 = .ok (.return_, 1) := by decide +kernel
theorem dX4_order_0 : decode cX4_order 0 = .ok (.aload_n 0, 1) := by decide +kernel
theorem dX4_order_1 : decode cX4_order 1 = .ok (.getfield 15, 3) := by decide +kernel
theorem dX4_order_4 : decode cX4_order 4 = .ok (.iload_n 1, 1) := by decide +kernel
theorem dX4_order_5 : decode cX4_order 5 = .ok (.iaload, 1) := by decide +kernel
theorem dX4_order_6 : decode cX4_order 6 = .ok (.istore_n 3, 1) := by decide +kernel
theorem dX4_order_7 : decode cX4_order 7 = .ok (.iload_n 3, 1) := by decide +kernel
theorem dX4_order_8 : decode cX4_order 8 = .ok (.aload_n 0, 1) := by decide +kernel
theorem dX4_order_9 : decode cX4_order 9 = .ok (.getfield 19, 3) := by decide +kernel
theorem dX4_order_12 : decode cX4_order 12 = .ok (.iload_n 1, 1) := by decide +kernel
theorem dX4_order_13 : decode cX4_order 13 = .ok (.iaload, 1) := by decide +kernel
theorem dX4_order_14 : decode cX4_order 14 = .ok (.if_icmp .ge 36, 3) := by decide +kernel
theorem dX4_order_17 : decode cX4_order 17 = .ok (.aload_n 0, 1) := by decide +kernel
theorem dX4_order_18 : decode cX4_order 18 = .ok (.getfield 9, 3) := by decide +kernel
theorem dX4_order_21 : decode cX4_order 21 = .ok (.iload_n 3, 1) := by decide +kernel
theorem dX4_order_22 : decode cX4_order 22 = .ok (.dup2, 1) := by decide +kernel
theorem dX4_order_23 : decode cX4_order 23 = .ok (.laload, 1) := by decide +kernel
theorem dX4_order_24 : decode cX4_order 24 = .ok (.ldc2_w 127, 3) := by decide +kernel
theorem dX4_order_27 : decode cX4_order 27 = .ok (.aload_n 0, 1) := by decide +kernel
theorem dX4_order_28 : decode cX4_order 28 = .ok (.getfield 9, 3) := by decide +kernel
theorem dX4_order_31 : decode cX4_order 31 = .ok (.iload_n 3, 1) := by decide +kernel
theorem dX4_order_32 : decode cX4_order 32 = .ok (.laload, 1) := by decide +kernel
theorem dX4_order_33 : decode cX4_order 33 = .ok (.invokestatic 101, 3) := by decide +kernel
theorem dX4_order_36 : decode cX4_order 36 = .ok (.iload_n 2, 1) := by decide +kernel
theorem dX4_order_37 : decode cX4_order 37 = .ok (.invokestatic 104, 3) := by decide +kernel
theorem dX4_order_40 : decode cX4_order 40 = .ok (.i2l, 1) := by decide +kernel
theorem dX4_order_41 : decode cX4_order 41 = .ok (.lmul, 1) := by decide +kernel
theorem dX4_order_42 : decode cX4_order 42 = .ok (.ladd, 1) := by decide +kernel
theorem dX4_order_43 : decode cX4_order 43 = .ok (.lastore, 1) := by decide +kernel
theorem dX4_order_44 : decode cX4_order 44 = .ok (.iinc 3 1, 3) := by decide +kernel
theorem dX4_order_47 : decode cX4_order 47 = .ok (.goto (-40), 3) := by decide +kernel
theorem dX4_order_50 : decode cX4_order 50 = .ok (.aload_n 0, 1) := by decide +kernel
theorem dX4_order_51 : decode cX4_order 51 = .ok (.getfield 9, 3) := by decide +kernel
theorem dX4_order_54 : decode cX4_order 54 = .ok (.aload_n 0, 1) := by decide +kernel
theorem dX4_order_55 : decode cX4_order 55 = .ok (.getfield 15, 3) := by decide +kernel
theorem dX4_order_58 : decode cX4_order 58 = .ok (.iload_n 1, 1) := by decide +kernel
theorem dX4_order_59 : decode cX4_order 59 = .ok (.iaload, 1) := by decide +kernel
theorem dX4_order_60 : decode cX4_order 60 = .ok (.aload_n 0, 1) := by decide +kernel
theorem dX4_order_61 : decode cX4_order 61 = .ok (.getfield 19, 3) := by decide +kernel
theorem dX4_order_64 : decode cX4_order 64 = .ok (.iload_n 1, 1) := by decide +kernel
theorem dX4_order_65 : decode cX4_order 65 = .ok (.iaload, 1) := by decide +kernel
theorem dX4_order_66 : decode cX4_order 66 = .ok (.invokestatic 129, 3) := by decide +kernel
theorem dX4_order_69 : decode cX4_order 69 = .ok (.aload_n 0, 1) := by decide +kernel
theorem dX4_order_70 : decode cX4_order 70 = .ok (.getfield 15, 3) := by decide +kernel
theorem dX4_order_73 : decode cX4_order 73 = .ok (.iload_n 1, 1) := by decide +kernel
theorem dX4_order_74 : decode cX4_order 74 = .ok (.iaload, 1) := by decide +kernel
theorem dX4_order_75 : decode cX4_order 75 = .ok (.istore_n 3, 1) := by decide +kernel
theorem dX4_order_76 : decode cX4_order 76 = .ok (.iload_n 3, 1) := by decide +kernel
theorem dX4_order_77 : decode cX4_order 77 = .ok (.aload_n 0, 1) := by decide +kernel
theorem dX4_order_78 : decode cX4_order 78 = .ok (.getfield 19, 3) := by decide +kernel
theorem dX4_order_81 : decode cX4_order 81 = .ok (.iload_n 1, 1) := by decide +kernel
theorem dX4_order_82 : decode cX4_order 82 = .ok (.iaload, 1) := by decide +kernel
theorem dX4_order_83 : decode cX4_order 83 = .ok (.if_icmp .ge 25, 3) := by decide +kernel
theorem dX4_order_86 : decode cX4_order 86 = .ok (.aload_n 0, 1) := by decide +kernel
theorem dX4_order_87 : decode cX4_order 87 = .ok (.getfield 9, 3) := by decide +kernel
theorem dX4_order_90 : decode cX4_order 90 = .ok (.iload_n 3, 1) := by decide +kernel
theorem dX4_order_91 : decode cX4_order 91 = .ok (.aload_n 0, 1) := by decide +kernel
theorem dX4_order_92 : decode cX4_order 92 = .ok (.getfield 9, 3) := by decide +kernel
theorem dX4_order_95 : decode cX4_order 95 = .ok (.iload_n 3, 1) := by decide +kernel
theorem dX4_order_96 : decode cX4_order 96 = .ok (.laload, 1) := by decide +kernel
theorem dX4_order_97 : decode cX4_order 97 = .ok (.ldc2_w 127, 3) := by decide +kernel
theorem dX4_order_100 : decode cX4_order 100 = .ok (.lrem, 1) := by decide +kernel
theorem dX4_order_101 : decode cX4_order 101 = .ok (.lastore, 1) := by decide +kernel
theorem dX4_order_102 : decode cX4_order 102 = .ok (.iinc 3 1, 3) := by decide +kernel
theorem dX4_order_105 : decode cX4_order 105 = .ok (.goto (-29), 3) := by decide +kernel
theorem dX4_order_108 : decode cX4_order 108 = .ok (.return_, 1) := by decide +kernel
theorem dX4_middleOf_0 : decode cX4_middleOf 0 = .ok (.aload_n 0, 1) := by decide +kernel
theorem dX4_middleOf_1 : decode cX4_middleOf 1 = .ok (.iload_n 1, 1) := by decide +kernel
theorem dX4_middleOf_2 : decode cX4_middleOf 2 = .ok (.invokevirtual 85, 3) := by decide +kernel
theorem dX4_middleOf_5 : decode cX4_middleOf 5 = .ok (.istore_n 2, 1) := by decide +kernel
theorem dX4_middleOf_6 : decode cX4_middleOf 6 = .ok (.iconst 0, 1) := by decide +kernel
theorem dX4_middleOf_7 : decode cX4_middleOf 7 = .ok (.istore_n 3, 1) := by decide +kernel
theorem dX4_middleOf_8 : decode cX4_middleOf 8 = .ok (.aload_n 0, 1) := by decide +kernel
theorem dX4_middleOf_9 : decode cX4_middleOf 9 = .ok (.getfield 15, 3) := by decide +kernel
theorem dX4_middleOf_12 : decode cX4_middleOf 12 = .ok (.iload_n 1, 1) := by decide +kernel
theorem dX4_middleOf_13 : decode cX4_middleOf 13 = .ok (.iaload, 1) := by decide +kernel
theorem dX4_middleOf_14 : decode cX4_middleOf 14 = .ok (.istore 4, 2) := by decide +kernel
theorem dX4_middleOf_16 : decode cX4_middleOf 16 = .ok (.iload 4, 2) := by decide +kernel
theorem dX4_middleOf_18 : decode cX4_middleOf 18 = .ok (.aload_n 0, 1) := by decide +kernel
theorem dX4_middleOf_19 : decode cX4_middleOf 19 = .ok (.getfield 19, 3) := by decide +kernel
theorem dX4_middleOf_22 : decode cX4_middleOf 22 = .ok (.iload_n 1, 1) := by decide +kernel
theorem dX4_middleOf_23 : decode cX4_middleOf 23 = .ok (.iaload, 1) := by decide +kernel
theorem dX4_middleOf_24 : decode cX4_middleOf 24 = .ok (.iconst 1, 1) := by decide +kernel
theorem dX4_middleOf_25 : decode cX4_middleOf 25 = .ok (.isub, 1) := by decide +kernel
theorem dX4_middleOf_26 : decode cX4_middleOf 26 = .ok (.if_icmp .ge 29, 3) := by decide +kernel
theorem dX4_middleOf_29 : decode cX4_middleOf 29 = .ok (.iconst 2, 1) := by decide +kernel
theorem dX4_middleOf_30 : decode cX4_middleOf 30 = .ok (.iload_n 3, 1) := by decide +kernel
theorem dX4_middleOf_31 : decode cX4_middleOf 31 = .ok (.imul, 1) := by decide +kernel
theorem dX4_middleOf_32 : decode cX4_middleOf 32 = .ok (.iload_n 2, 1) := by decide +kernel
theorem dX4_middleOf_33 : decode cX4_middleOf 33 = .ok (.if_icmp .ge 22, 3) := by decide +kernel
theorem dX4_middleOf_36 : decode cX4_middleOf 36 = .ok (.iload_n 3, 1) := by decide +kernel
theorem dX4_middleOf_37 : decode cX4_middleOf 37 = .ok (.aload_n 0, 1) := by decide +kernel
theorem dX4_middleOf_38 : decode cX4_middleOf 38 = .ok (.getfield 9, 3) := by decide +kernel
theorem dX4_middleOf_41 : decode cX4_middleOf 41 = .ok (.iload 4, 2) := by decide +kernel
theorem dX4_middleOf_43 : decode cX4_middleOf 43 = .ok (.laload, 1) := by decide +kernel
theorem dX4_middleOf_44 : decode cX4_middleOf 44 = .ok (.invokestatic 97, 3) := by decide +kernel
theorem dX4_middleOf_47 : decode cX4_middleOf 47 = .ok (.iadd, 1) := by decide +kernel
theorem dX4_middleOf_48 : decode cX4_middleOf 48 = .ok (.istore_n 3, 1) := by decide +kernel
theorem dX4_middleOf_49 : decode cX4_middleOf 49 = .ok (.iinc 4 1, 3) := by decide +kernel
theorem dX4_middleOf_52 : decode cX4_middleOf 52 = .ok (.goto (-36), 3) := by decide +kernel
theorem dX4_middleOf_55 : decode cX4_middleOf 55 = .ok (.iload 4, 2) := by decide +kernel
theorem dX4_middleOf_57 : decode cX4_middleOf 57 = .ok (.ireturn, 1) := by decide +kernel
theorem dX5_init_0 : decode cX5_init 0 = .ok (.aload_n 0, 1) := by decide +kernel
theorem dX5_init_1 : decode cX5_init 1 = .ok (.invokespecial 3, 3) := by decide +kernel
theorem dX5_init_4 : decode cX5_init 4 = .ok (.aload_n 0, 1) := by decide +kernel
theorem dX5_init_5 : decode cX5_init 5 = .ok (.bipush 48, 2) := by decide +kernel
theorem dX5_init_7 : decode cX5_init 7 = .ok (.newarray .int, 2) := by decide +kernel
theorem dX5_init_9 : decode cX5_init 9 = .ok (.putfield 9, 3) := by decide +kernel
theorem dX5_init_12 : decode cX5_init 12 = .ok (.aload_n 0, 1) := by decide +kernel
theorem dX5_init_13 : decode cX5_init 13 = .ok (.iconst 0, 1) := by decide +kernel
theorem dX5_init_14 : decode cX5_init 14 = .ok (.putfield 15, 3) := by decide +kernel
theorem dX5_init_17 : decode cX5_init 17 = .ok (.aload_n 0, 1) := by decide +kernel
theorem dX5_init_18 : decode cX5_init 18 = .ok (.iconst 0, 1) := by decide +kernel
theorem dX5_init_19 : decode cX5_init 19 = .ok (.putfield 19, 3) := by decide +kernel
theorem dX5_init_22 : decode cX5_init 22 = .ok (.aload_n 0, 1) := by decide +kernel
theorem dX5_init_23 : decode cX5_init 23 = .ok (.aload_n 1, 1) := by decide +kernel
theorem dX5_init_24 : decode cX5_init 24 = .ok (.putfield 22, 3) := by decide +kernel
theorem dX5_init_27 : decode cX5_init 27 = .ok (.aload_n 0, 1) := by decide +kernel
theorem dX5_init_28 : decode cX5_init 28 = .ok (.aload_n 2, 1) := by decide +kernel
theorem dX5_init_29 : decode cX5_init 29 = .ok (.putfield 26, 3) := by decide +kernel
theorem dX5_init_32 : decode cX5_init 32 = .ok (.return_, 1) := by decide +kernel
theorem dX5_moveToMeans_0 : decode cX5_moveToMeans 0 = .ok (.aload_n 0, 1) := by decide +kernel
theorem dX5_moveToMeans_1 : decode cX5_moveToMeans 1 = .ok (.getfield 26, 3) := by decide +kernel
theorem dX5_moveToMeans_4 : decode cX5_moveToMeans 4 = .ok (.invokevirtual 30, 3) := by decide +kernel
theorem dX5_moveToMeans_7 : decode cX5_moveToMeans 7 = .ok (.aload_n 0, 1) := by decide +kernel
theorem dX5_moveToMeans_8 : decode cX5_moveToMeans 8 = .ok (.invokevirtual 35, 3) := by decide +kernel
theorem dX5_moveToMeans_11 : decode cX5_moveToMeans 11 = .ok (.iconst 0, 1) := by decide +kernel
theorem dX5_moveToMeans_12 : decode cX5_moveToMeans 12 = .ok (.istore_n 1, 1) := by decide +kernel
theorem dX5_moveToMeans_13 : decode cX5_moveToMeans 13 = .ok (.iconst 0, 1) := by decide +kernel
theorem dX5_moveToMeans_14 : decode cX5_moveToMeans 14 = .ok (.istore_n 2, 1) := by decide +kernel
theorem dX5_moveToMeans_15 : decode cX5_moveToMeans 15 = .ok (.iload_n 2, 1) := by decide +kernel
theorem dX5_moveToMeans_16 : decode cX5_moveToMeans 16 = .ok (.aload_n 0, 1) := by decide +kernel
theorem dX5_moveToMeans_17 : decode cX5_moveToMeans 17 = .ok (.getfield 22, 3) := by decide +kernel
theorem dX5_moveToMeans_20 : decode cX5_moveToMeans 20 = .ok (.getfield 38, 3) := by decide +kernel
theorem dX5_moveToMeans_23 : decode cX5_moveToMeans 23 = .ok (.if_icmp .ge 120, 3) := by decide +kernel
theorem dX5_moveToMeans_26 : decode cX5_moveToMeans 26 = .ok (.aload_n 0, 1) := by decide +kernel
theorem dX5_moveToMeans_27 : decode cX5_moveToMeans 27 = .ok (.getfield 26, 3) := by decide +kernel
theorem dX5_moveToMeans_30 : decode cX5_moveToMeans 30 = .ok (.getfield 43, 3) := by decide +kernel
theorem dX5_moveToMeans_33 : decode cX5_moveToMeans 33 = .ok (.iload_n 2, 1) := by decide +kernel
theorem dX5_moveToMeans_34 : decode cX5_moveToMeans 34 = .ok (.iaload, 1) := by decide +kernel
theorem dX5_moveToMeans_35 : decode cX5_moveToMeans 35 = .ok (.istore_n 3, 1) := by decide +kernel
theorem dX5_moveToMeans_36 : decode cX5_moveToMeans 36 = .ok (.aload_n 0, 1) := by decide +kernel
theorem dX5_moveToMeans_37 : decode cX5_moveToMeans 37 = .ok (.getfield 22, 3) := by decide +kernel
theorem dX5_moveToMeans_40 : decode cX5_moveToMeans 40 = .ok (.getfield 46, 3) := by decide +kernel
theorem dX5_moveToMeans_43 : decode cX5_moveToMeans 43 = .ok (.iload_n 2, 1) := by decide +kernel
theorem dX5_moveToMeans_44 : decode cX5_moveToMeans 44 = .ok (.baload, 1) := by decide +kernel
theorem dX5_moveToMeans_45 : decode cX5_moveToMeans 45 = .ok (.ifCond .ne 92, 3) := by decide +kernel
theorem dX5_moveToMeans_48 : decode cX5_moveToMeans 48 = .ok (.iload_n 3, 1) := by decide +kernel
theorem dX5_moveToMeans_49 : decode cX5_moveToMeans 49 = .ok (.ifCond .ne 6, 3) := by decide +kernel
theorem dX5_moveToMeans_52 : decode cX5_moveToMeans 52 = .ok (.goto 85, 3) := by decide +kernel
theorem dX5_moveToMeans_55 : decode cX5_moveToMeans 55 = .ok (.iconst 3, 1) := by decide +kernel
theorem dX5_moveToMeans_56 : decode cX5_moveToMeans 56 = .ok (.iload_n 2, 1) := by decide +kernel
theorem dX5_moveToMeans_57 : decode cX5_moveToMeans 57 = .ok (.imul, 1) := by decide +kernel
theorem dX5_moveToMeans_58 : decode cX5_moveToMeans 58 = .ok (.istore 4, 2) := by decide +kernel
theorem dX5_moveToMeans_60 : decode cX5_moveToMeans 60 = .ok (.aload_n 0, 1) := by decide +kernel
theorem dX5_moveToMeans_61 : decode cX5_moveToMeans 61 = .ok (.getfield 9, 3) := by decide +kernel
theorem dX5_moveToMeans_64 : decode cX5_moveToMeans 64 = .ok (.iload 4, 2) := by decide +kernel
theorem dX5_moveToMeans_66 : decode cX5_moveToMeans 66 = .ok (.iaload, 1) := by decide +kernel
theorem dX5_moveToMeans_67 : decode cX5_moveToMeans 67 = .ok (.iload_n 3, 1) := by decide +kernel
theorem dX5_moveToMeans_68 : decode cX5_moveToMeans 68 = .ok (.invokestatic 50, 3) := by decide +kernel
theorem dX5_moveToMeans_71 : decode cX5_moveToMeans 71 = .ok (.aload_n 0, 1) := by decide +kernel
theorem dX5_moveToMeans_72 : decode cX5_moveToMeans 72 = .ok (.getfield 9, 3) := by decide +kernel
theorem dX5_moveToMeans_75 : decode cX5_moveToMeans 75 = .ok (.iload 4, 2) := by decide +kernel
theorem dX5_moveToMeans_77 : decode cX5_moveToMeans 77 = .ok (.iconst 1, 1) := by decide +kernel
theorem dX5_moveToMeans_78 : decode cX5_moveToMeans 78 = .ok (.iadd, 1) := by decide +kernel
theorem dX5_moveToMeans_79 : decode cX5_moveToMeans 79 = .ok (.iaload, 1) := by decide +kernel
theorem dX5_moveToMeans_80 : decode cX5_moveToMeans 80 = .ok (.iload_n 3, 1) := by decide +kernel
theorem dX5_moveToMeans_81 : decode cX5_moveToMeans 81 = .ok (.invokestatic 50, 3) := by decide +kernel
theorem dX5_moveToMeans_84 : decode cX5_moveToMeans 84 = .ok (.aload_n 0, 1) := by decide +kernel
theorem dX5_moveToMeans_85 : decode cX5_moveToMeans 85 = .ok (.getfield 9, 3) := by decide +kernel
theorem dX5_moveToMeans_88 : decode cX5_moveToMeans 88 = .ok (.iload 4, 2) := by decide +kernel
theorem dX5_moveToMeans_90 : decode cX5_moveToMeans 90 = .ok (.iconst 2, 1) := by decide +kernel
theorem dX5_moveToMeans_91 : decode cX5_moveToMeans 91 = .ok (.iadd, 1) := by decide +kernel
theorem dX5_moveToMeans_92 : decode cX5_moveToMeans 92 = .ok (.iaload, 1) := by decide +kernel
theorem dX5_moveToMeans_93 : decode cX5_moveToMeans 93 = .ok (.iload_n 3, 1) := by decide +kernel
theorem dX5_moveToMeans_94 : decode cX5_moveToMeans 94 = .ok (.invokestatic 50, 3) := by decide +kernel
theorem dX5_moveToMeans_97 : decode cX5_moveToMeans 97 = .ok (.invokestatic 54, 3) := by decide +kernel
theorem dX5_moveToMeans_100 : decode cX5_moveToMeans 100 = .ok (.istore 5, 2) := by decide +kernel
theorem dX5_moveToMeans_102 : decode cX5_moveToMeans 102 = .ok (.iload_n 1, 1) := by decide +kernel
theorem dX5_moveToMeans_103 : decode cX5_moveToMeans 103 = .ok (.ifCond .ne 17, 3) := by decide +kernel
theorem dX5_moveToMeans_106 : decode cX5_moveToMeans 106 = .ok (.iload 5, 2) := by decide +kernel
theorem dX5_moveToMeans_108 : decode cX5_moveToMeans 108 = .ok (.aload_n 0, 1) := by decide +kernel
theorem dX5_moveToMeans_109 : decode cX5_moveToMeans 109 = .ok (.getfield 22, 3) := by decide +kernel
theorem dX5_moveToMeans_112 : decode cX5_moveToMeans 112 = .ok (.getfield 58, 3) := by decide +kernel
theorem dX5_moveToMeans_115 : decode cX5_moveToMeans 115 = .ok (.iload_n 2, 1) := by decide +kernel
theorem dX5_moveToMeans_116 : decode cX5_moveToMeans 116 = .ok (.iaload, 1) := by decide +kernel
theorem dX5_moveToMeans_117 : decode cX5_moveToMeans 117 = .ok (.if_icmp .eq 7, 3) := by decide +kernel
theorem dX5_moveToMeans_120 : decode cX5_moveToMeans 120 = .ok (.iconst 1, 1) := by decide +kernel
theorem dX5_moveToMeans_121 : decode cX5_moveToMeans 121 = .ok (.goto 4, 3) := by decide +kernel
theorem dX5_moveToMeans_124 : decode cX5_moveToMeans 124 = .ok (.iconst 0, 1) := by decide +kernel
theorem dX5_moveToMeans_125 : decode cX5_moveToMeans 125 = .ok (.istore_n 1, 1) := by decide +kernel
theorem dX5_moveToMeans_126 : decode cX5_moveToMeans 126 = .ok (.aload_n 0, 1) := by decide +kernel
theorem dX5_moveToMeans_127 : decode cX5_moveToMeans 127 = .ok (.getfield 22, 3) := by decide +kernel
theorem dX5_moveToMeans_130 : decode cX5_moveToMeans 130 = .ok (.getfield 58, 3) := by decide +kernel
theorem dX5_moveToMeans_133 : decode cX5_moveToMeans 133 = .ok (.iload_n 2, 1) := by decide +kernel
theorem dX5_moveToMeans_134 : decode cX5_moveToMeans 134 = .ok (.iload 5, 2) := by decide +kernel
theorem dX5_moveToMeans_136 : decode cX5_moveToMeans 136 = .ok (.iastore, 1) := by decide +kernel
theorem dX5_moveToMeans_137 : decode cX5_moveToMeans 137 = .ok (.iinc 2 1, 3) := by decide +kernel
theorem dX5_moveToMeans_140 : decode cX5_moveToMeans 140 = .ok (.goto (-125), 3) := by decide +kernel
theorem dX5_moveToMeans_143 : decode cX5_moveToMeans 143 = .ok (.iload_n 1, 1) := by decide +kernel
theorem dX5_moveToMeans_144 : decode cX5_moveToMeans 144 = .ok (.ireturn, 1) := by decide +kernel
theorem dX5_sumChannels_0 : decode cX5_sumChannels 0 = .ok (.iconst 0, 1) := by decide +kernel
theorem dX5_sumChannels_1 : decode cX5_sumChannels 1 = .ok (.istore_n 1, 1) := by decide +kernel
theorem dX5_sumChannels_2 : decode cX5_sumChannels 2 = .ok (.iload_n 1, 1) := by decide +kernel
theorem dX5_sumChannels_3 : decode cX5_sumChannels 3 = .ok (.aload_n 0, 1) := by decide +kernel
theorem dX5_sumChannels_4 : decode cX5_sumChannels 4 = .ok (.getfield 9, 3) := by decide +kernel
theorem dX5_sumChannels_7 : decode cX5_sumChannels 7 = .ok (.arraylength, 1) := by decide +kernel
theorem dX5_sumChannels_8 : decode cX5_sumChannels 8 = .ok (.if_icmp .ge 16, 3) := by decide +kernel
theorem dX5_sumChannels_11 : decode cX5_sumChannels 11 = .ok (.aload_n 0, 1) := by decide +kernel
theorem dX5_sumChannels_12 : decode cX5_sumChannels 12 = .ok (.getfield 9, 3) := by decide +kernel
theorem dX5_sumChannels_15 : decode cX5_sumChannels 15 = .ok (.iload_n 1, 1) := by decide +kernel
theorem dX5_sumChannels_16 : decode cX5_sumChannels 16 = .ok (.iconst 0, 1) := by decide +kernel
theorem dX5_sumChannels_17 : decode cX5_sumChannels 17 = .ok (.iastore, 1) := by decide +kernel
theorem dX5_sumChannels_18 : decode cX5_sumChannels 18 = .ok (.iinc 1 1, 3) := by decide +kernel
theorem dX5_sumChannels_21 : decode cX5_sumChannels 21 = .ok (.goto (-19), 3) := by decide +kernel
theorem dX5_sumChannels_24 : decode cX5_sumChannels 24 = .ok (.iconst 0, 1) := by decide +kernel
theorem dX5_sumChannels_25 : decode cX5_sumChannels 25 = .ok (.istore_n 1, 1) := by decide +kernel
theorem dX5_sumChannels_26 : decode cX5_sumChannels 26 = .ok (.iload_n 1, 1) := by decide +kernel
theorem dX5_sumChannels_27 : decode cX5_sumChannels 27 = .ok (.aload_n 0, 1) := by decide +kernel
theorem dX5_sumChannels_28 : decode cX5_sumChannels 28 = .ok (.getfield 22, 3) := by decide +kernel
theorem dX5_sumChannels_31 : decode cX5_sumChannels 31 = .ok (.invokevirtual 61, 3) := by decide +kernel
theorem dX5_sumChannels_34 : decode cX5_sumChannels 34 = .ok (.if_icmp .ge 72, 3) := by decide +kernel
theorem dX5_sumChannels_37 : decode cX5_sumChannels 37 = .ok (.aload_n 0, 1) := by decide +kernel
theorem dX5_sumChannels_38 : decode cX5_sumChannels 38 = .ok (.getfield 26, 3) := by decide +kernel
theorem dX5_sumChannels_41 : decode cX5_sumChannels 41 = .ok (.getfield 65, 3) := by decide +kernel
theorem dX5_sumChannels_44 : decode cX5_sumChannels 44 = .ok (.iload_n 1, 1) := by decide +kernel
theorem dX5_sumChannels_45 : decode cX5_sumChannels 45 = .ok (.iaload, 1) := by decide +kernel
theorem dX5_sumChannels_46 : decode cX5_sumChannels 46 = .ok (.istore_n 2, 1) := by decide +kernel
theorem dX5_sumChannels_47 : decode cX5_sumChannels 47 = .ok (.aload_n 0, 1) := by decide +kernel
theorem dX5_sumChannels_48 : decode cX5_sumChannels 48 = .ok (.getfield 22, 3) := by decide +kernel
theorem dX5_sumChannels_51 : decode cX5_sumChannels 51 = .ok (.iload_n 2, 1) := by decide +kernel
theorem dX5_sumChannels_52 : decode cX5_sumChannels 52 = .ok (.invokevirtual 68, 3) := by decide +kernel
theorem dX5_sumChannels_55 : decode cX5_sumChannels 55 = .ok (.ifCond .ne 6, 3) := by decide +kernel
theorem dX5_sumChannels_58 : decode cX5_sumChannels 58 = .ok (.goto 42, 3) := by decide +kernel
theorem dX5_sumChannels_61 : decode cX5_sumChannels 61 = .ok (.iconst 0, 1) := by decide +kernel
theorem dX5_sumChannels_62 : decode cX5_sumChannels 62 = .ok (.istore_n 3, 1) := by decide +kernel
theorem dX5_sumChannels_63 : decode cX5_sumChannels 63 = .ok (.iload_n 3, 1) := by decide +kernel
theorem dX5_sumChannels_64 : decode cX5_sumChannels 64 = .ok (.iconst 3, 1) := by decide +kernel
theorem dX5_sumChannels_65 : decode cX5_sumChannels 65 = .ok (.if_icmp .ge 35, 3) := by decide +kernel
theorem dX5_sumChannels_68 : decode cX5_sumChannels 68 = .ok (.aload_n 0, 1) := by decide +kernel
theorem dX5_sumChannels_69 : decode cX5_sumChannels 69 = .ok (.getfield 9, 3) := by decide +kernel
theorem dX5_sumChannels_72 : decode cX5_sumChannels 72 = .ok (.iconst 3, 1) := by decide +kernel
theorem dX5_sumChannels_73 : decode cX5_sumChannels 73 = .ok (.iload_n 2, 1) := by decide +kernel
theorem dX5_sumChannels_74 : decode cX5_sumChannels 74 = .ok (.imul, 1) := by decide +kernel
theorem dX5_sumChannels_75 : decode cX5_sumChannels 75 = .ok (.iload_n 3, 1) := by decide +kernel
theorem dX5_sumChannels_76 : decode cX5_sumChannels 76 = .ok (.iadd, 1) := by decide +kernel
theorem dX5_sumChannels_77 : decode cX5_sumChannels 77 = .ok (.dup2, 1) := by decide +kernel
theorem dX5_sumChannels_78 : decode cX5_sumChannels 78 = .ok (.iaload, 1) := by decide +kernel
theorem dX5_sumChannels_79 : decode cX5_sumChannels 79 = .ok (.aload_n 0, 1) := by decide +kernel
theorem dX5_sumChannels_80 : decode cX5_sumChannels 80 = .ok (.getfield 22, 3) := by decide +kernel
theorem dX5_sumChannels_83 : decode cX5_sumChannels 83 = .ok (.getfield 72, 3) := by decide +kernel
theorem dX5_sumChannels_86 : decode cX5_sumChannels 86 = .ok (.iload_n 1, 1) := by decide +kernel
theorem dX5_sumChannels_87 : decode cX5_sumChannels 87 = .ok (.iaload, 1) := by decide +kernel
theorem dX5_sumChannels_88 : decode cX5_sumChannels 88 = .ok (.iload_n 3, 1) := by decide +kernel
theorem dX5_sumChannels_89 : decode cX5_sumChannels 89 = .ok (.invokestatic 75, 3) := by decide +kernel
theorem dX5_sumChannels_92 : decode cX5_sumChannels 92 = .ok (.iadd, 1) := by decide +kernel
theorem dX5_sumChannels_93 : decode cX5_sumChannels 93 = .ok (.iastore, 1) := by decide +kernel
theorem dX5_sumChannels_94 : decode cX5_sumChannels 94 = .ok (.iinc 3 1, 3) := by decide +kernel
theorem dX5_sumChannels_97 : decode cX5_sumChannels 97 = .ok (.goto (-34), 3) := by decide +kernel
theorem dX5_sumChannels_100 : decode cX5_sumChannels 100 = .ok (.iinc 1 1, 3) := by decide +kernel
theorem dX5_sumChannels_103 : decode cX5_sumChannels 103 = .ok (.goto (-77), 3) := by decide +kernel
theorem dX5_sumChannels_106 : decode cX5_sumChannels 106 = .ok (.return_, 1) := by decide +kernel
theorem dX5_mergeDownTo_0 : decode cX5_mergeDownTo 0 = .ok (.iconst 0, 1) := by decide +kernel
theorem dX5_mergeDownTo_1 : decode cX5_mergeDownTo 1 = .ok (.istore_n 2, 1) := by decide +kernel
theorem dX5_mergeDownTo_2 : decode cX5_mergeDownTo 2 = .ok (.iload_n 2, 1) := by decide +kernel
theorem dX5_mergeDownTo_3 : decode cX5_mergeDownTo 3 = .ok (.bipush 16, 2) := by decide +kernel
theorem dX5_mergeDownTo_5 : decode cX5_mergeDownTo 5 = .ok (.if_icmp .ge 39, 3) := by decide +kernel
theorem dX5_mergeDownTo_8 : decode cX5_mergeDownTo 8 = .ok (.aload_n 0, 1) := by decide +kernel
theorem dX5_mergeDownTo_9 : decode cX5_mergeDownTo 9 = .ok (.getfield 22, 3) := by decide +kernel
theorem dX5_mergeDownTo_12 : decode cX5_mergeDownTo 12 = .ok (.getfield 38, 3) := by decide +kernel
theorem dX5_mergeDownTo_15 : decode cX5_mergeDownTo 15 = .ok (.iload_n 1, 1) := by decide +kernel
theorem dX5_mergeDownTo_16 : decode cX5_mergeDownTo 16 = .ok (.if_icmp .le 28, 3) := by decide +kernel
theorem dX5_mergeDownTo_19 : decode cX5_mergeDownTo 19 = .ok (.aload_n 0, 1) := by decide +kernel
theorem dX5_mergeDownTo_20 : decode cX5_mergeDownTo 20 = .ok (.getfield 26, 3) := by decide +kernel
theorem dX5_mergeDownTo_23 : decode cX5_mergeDownTo 23 = .ok (.invokevirtual 30, 3) := by decide +kernel
theorem dX5_mergeDownTo_26 : decode cX5_mergeDownTo 26 = .ok (.aload_n 0, 1) := by decide +kernel
theorem dX5_mergeDownTo_27 : decode cX5_mergeDownTo 27 = .ok (.invokevirtual 78, 3) := by decide +kernel
theorem dX5_mergeDownTo_30 : decode cX5_mergeDownTo 30 = .ok (.ifCond .ne 4, 3) := by decide +kernel
theorem dX5_mergeDownTo_33 : decode cX5_mergeDownTo 33 = .ok (.return_, 1) := by decide +kernel
theorem dX5_mergeDownTo_34 : decode cX5_mergeDownTo 34 = .ok (.aload_n 0, 1) := by decide +kernel
theorem dX5_mergeDownTo_35 : decode cX5_mergeDownTo 35 = .ok (.invokevirtual 82, 3) := by decide +kernel
theorem dX5_mergeDownTo_38 : decode cX5_mergeDownTo 38 = .ok (.iinc 2 1, 3) := by decide +kernel
theorem dX5_mergeDownTo_41 : decode cX5_mergeDownTo 41 = .ok (.goto (-39), 3) := by decide +kernel
theorem dX5_mergeDownTo_44 : decode cX5_mergeDownTo 44 = .ok (.return_, 1) := by decide +kernel
theorem dX5_findCheapestPair_0 : decode cX5_findCheapestPair 0 = .ok (.iconst 0, 1) := by decide +kernel
theorem dX5_findCheapestPair_1 : decode cX5_findCheapestPair 1 = .ok (.istore_n 1, 1) := by decide +kernel
theorem dX5_findCheapestPair_2 : decode cX5_findCheapestPair 2 = .ok (.lconst 0, 1) := by decide +kernel
theorem dX5_findCheapestPair_3 : decode cX5_findCheapestPair 3 = .ok (.lstore_n 2, 1) := by decide +kernel
theorem dX5_findCheapestPair_4 : decode cX5_findCheapestPair 4 = .ok (.iconst 0, 1) := by decide +kernel
theorem dX5_findCheapestPair_5 : decode cX5_findCheapestPair 5 = .ok (.istore 4, 2) := by decide +kernel
theorem dX5_findCheapestPair_7 : decode cX5_findCheapestPair 7 = .ok (.iload 4, 2) := by decide +kernel
theorem dX5_findCheapestPair_9 : decode cX5_findCheapestPair 9 = .ok (.aload_n 0, 1) := by decide +kernel
theorem dX5_findCheapestPair_10 : decode cX5_findCheapestPair 10 = .ok (.getfield 22, 3) := by decide +kernel
theorem dX5_findCheapestPair_13 : decode cX5_findCheapestPair 13 = .ok (.getfield 38, 3) := by decide +kernel
theorem dX5_findCheapestPair_16 : decode cX5_findCheapestPair 16 = .ok (.if_icmp .ge 100, 3) := by decide +kernel
theorem dX5_findCheapestPair_19 : decode cX5_findCheapestPair 19 = .ok (.iload 4, 2) := by decide +kernel
theorem dX5_findCheapestPair_21 : decode cX5_findCheapestPair 21 = .ok (.iconst 1, 1) := by decide +kernel
theorem dX5_findCheapestPair_22 : decode cX5_findCheapestPair 22 = .ok (.iadd, 1) := by decide +kernel
theorem dX5_findCheapestPair_23 : decode cX5_findCheapestPair 23 = .ok (.istore 5, 2) := by decide +kernel
theorem dX5_findCheapestPair_25 : decode cX5_findCheapestPair 25 = .ok (.iload 5, 2) := by decide +kernel
theorem dX5_findCheapestPair_27 : decode cX5_findCheapestPair 27 = .ok (.aload_n 0, 1) := by decide +kernel
theorem dX5_findCheapestPair_28 : decode cX5_findCheapestPair 28 = .ok (.getfield 22, 3) := by decide +kernel
theorem dX5_findCheapestPair_31 : decode cX5_findCheapestPair 31 = .ok (.getfield 38, 3) := by decide +kernel
theorem dX5_findCheapestPair_34 : decode cX5_findCheapestPair 34 = .ok (.if_icmp .ge 76, 3) := by decide +kernel
theorem dX5_findCheapestPair_37 : decode cX5_findCheapestPair 37 = .ok (.aload_n 0, 1) := by decide +kernel
theorem dX5_findCheapestPair_38 : decode cX5_findCheapestPair 38 = .ok (.getfield 22, 3) := by decide +kernel
theorem dX5_findCheapestPair_41 : decode cX5_findCheapestPair 41 = .ok (.getfield 46, 3) := by decide +kernel
theorem dX5_findCheapestPair_44 : decode cX5_findCheapestPair 44 = .ok (.iload 4, 2) := by decide +kernel
theorem dX5_findCheapestPair_46 : decode cX5_findCheapestPair 46 = .ok (.baload, 1) := by decide +kernel
theorem dX5_findCheapestPair_47 : decode cX5_findCheapestPair 47 = .ok (.ifCond .eq 19, 3) := by decide +kernel
theorem dX5_findCheapestPair_50 : decode cX5_findCheapestPair 50 = .ok (.aload_n 0, 1) := by decide +kernel
theorem dX5_findCheapestPair_51 : decode cX5_findCheapestPair 51 = .ok (.getfield 22, 3) := by decide +kernel
theorem dX5_findCheapestPair_54 : decode cX5_findCheapestPair 54 = .ok (.getfield 46, 3) := by decide +kernel
theorem dX5_findCheapestPair_57 : decode cX5_findCheapestPair 57 = .ok (.iload 5, 2) := by decide +kernel
theorem dX5_findCheapestPair_59 : decode cX5_findCheapestPair 59 = .ok (.baload, 1) := by decide +kernel
theorem dX5_findCheapestPair_60 : decode cX5_findCheapestPair 60 = .ok (.ifCond .eq 6, 3) := by decide +kernel
theorem dX5_findCheapestPair_63 : decode cX5_findCheapestPair 63 = .ok (.goto 41, 3) := by decide +kernel
theorem dX5_findCheapestPair_66 : decode cX5_findCheapestPair 66 = .ok (.aload_n 0, 1) := by decide +kernel
theorem dX5_findCheapestPair_67 : decode cX5_findCheapestPair 67 = .ok (.iload 4, 2) := by decide +kernel
theorem dX5_findCheapestPair_69 : decode cX5_findCheapestPair 69 = .ok (.iload 5, 2) := by decide +kernel
theorem dX5_findCheapestPair_71 : decode cX5_findCheapestPair 71 = .ok (.invokevirtual 85, 3) := by decide +kernel
theorem dX5_findCheapestPair_74 : decode cX5_findCheapestPair 74 = .ok (.lstore 6, 2) := by decide +kernel
theorem dX5_findCheapestPair_76 : decode cX5_findCheapestPair 76 = .ok (.iload_n 1, 1) := by decide +kernel
theorem dX5_findCheapestPair_77 : decode cX5_findCheapestPair 77 = .ok (.ifCond .eq 10, 3) := by decide +kernel
theorem dX5_findCheapestPair_80 : decode cX5_findCheapestPair 80 = .ok (.lload 6, 2) := by decide +kernel
theorem dX5_findCheapestPair_82 : decode cX5_findCheapestPair 82 = .ok (.lload_n 2, 1) := by decide +kernel
theorem dX5_findCheapestPair_83 : decode cX5_findCheapestPair 83 = .ok (.lcmp, 1) := by decide +kernel
theorem dX5_findCheapestPair_84 : decode cX5_findCheapestPair 84 = .ok (.ifCond .ge 20, 3) := by decide +kernel
theorem dX5_findCheapestPair_87 : decode cX5_findCheapestPair 87 = .ok (.iconst 1, 1) := by decide +kernel
theorem dX5_findCheapestPair_88 : decode cX5_findCheapestPair 88 = .ok (.istore_n 1, 1) := by decide +kernel
theorem dX5_findCheapestPair_89 : decode cX5_findCheapestPair 89 = .ok (.lload 6, 2) := by decide +kernel
theorem dX5_findCheapestPair_91 : decode cX5_findCheapestPair 91 = .ok (.lstore_n 2, 1) := by decide +kernel
theorem dX5_findCheapestPair_92 : decode cX5_findCheapestPair 92 = .ok (.aload_n 0, 1) := by decide +kernel
theorem dX5_findCheapestPair_93 : decode cX5_findCheapestPair 93 = .ok (.iload 4, 2) := by decide +kernel
theorem dX5_findCheapestPair_95 : decode cX5_findCheapestPair 95 = .ok (.putfield 15, 3) := by decide +kernel
theorem dX5_findCheapestPair_98 : decode cX5_findCheapestPair 98 = .ok (.aload_n 0, 1) := by decide +kernel
theorem dX5_findCheapestPair_99 : decode cX5_findCheapestPair 99 = .ok (.iload 5, 2) := by decide +kernel
theorem dX5_findCheapestPair_101 : decode cX5_findCheapestPair 101 = .ok (.putfield 19, 3) := by decide +kernel
theorem dX5_findCheapestPair_104 : decode cX5_findCheapestPair 104 = .ok (.iinc 5 1, 3) := by decide +kernel
theorem dX5_findCheapestPair_107 : decode cX5_findCheapestPair 107 = .ok (.goto (-82), 3) := by decide +kernel
theorem dX5_findCheapestPair_110 : decode cX5_findCheapestPair 110 = .ok (.iinc 4 1, 3) := by decide +kernel
theorem dX5_findCheapestPair_113 : decode cX5_findCheapestPair 113 = .ok (.goto (-106), 3) := by decide +kernel
theorem dX5_findCheapestPair_116 : decode cX5_findCheapestPair 116 = .ok (.iload_n 1, 1) := by decide +kernel
theorem dX5_findCheapestPair_117 : decode cX5_findCheapestPair 117 = .ok (.ireturn, 1) := by decide +kernel
theorem dX5_cost_0 : decode cX5_cost 0 = .ok (.aload_n 0, 1) := by decide +kernel
theorem dX5_cost_1 : decode cX5_cost 1 = .ok (.getfield 26, 3) := by decide +kernel
theorem dX5_cost_4 : decode cX5_cost 4 = .ok (.getfield 43, 3) := by decide +kernel
theorem dX5_cost_7 : decode cX5_cost 7 = .ok (.iload_n 1, 1) := by decide +kernel
theorem dX5_cost_8 : decode cX5_cost 8 = .ok (.iaload, 1) := by decide +kernel
theorem dX5_cost_9 : decode cX5_cost 9 = .ok (.aload_n 0, 1) := by decide +kernel
theorem dX5_cost_10 : decode cX5_cost 10 = .ok (.getfield 26, 3) := by decide +kernel
theorem dX5_cost_13 : decode cX5_cost 13 = .ok (.getfield 43, 3) := by decide +kernel
theorem dX5_cost_16 : decode cX5_cost 16 = .ok (.iload_n 2, 1) := by decide +kernel
theorem dX5_cost_17 : decode cX5_cost 17 = .ok (.iaload, 1) := by decide +kernel
theorem dX5_cost_18 : decode cX5_cost 18 = .ok (.iadd, 1) := by decide +kernel
theorem dX5_cost_19 : decode cX5_cost 19 = .ok (.i2l, 1) := by decide +kernel
theorem dX5_cost_20 : decode cX5_cost 20 = .ok (.lstore_n 3, 1) := by decide +kernel
theorem dX5_cost_21 : decode cX5_cost 21 = .ok (.lload_n 3, 1) := by decide +kernel
theorem dX5_cost_22 : decode cX5_cost 22 = .ok (.lconst 0, 1) := by decide +kernel
theorem dX5_cost_23 : decode cX5_cost 23 = .ok (.lcmp, 1) := by decide +kernel
theorem dX5_cost_24 : decode cX5_cost 24 = .ok (.ifCond .gt 5, 3) := by decide +kernel
theorem dX5_cost_27 : decode cX5_cost 27 = .ok (.lconst 0, 1) := by decide +kernel
theorem dX5_cost_28 : decode cX5_cost 28 = .ok (.lreturn, 1) := by decide +kernel
theorem dX5_cost_29 : decode cX5_cost 29 = .ok (.aload_n 0, 1) := by decide +kernel
theorem dX5_cost_30 : decode cX5_cost 30 = .ok (.getfield 26, 3) := by decide +kernel
theorem dX5_cost_33 : decode cX5_cost 33 = .ok (.getfield 43, 3) := by decide +kernel
theorem dX5_cost_36 : decode cX5_cost 36 = .ok (.iload_n 1, 1) := by decide +kernel
theorem dX5_cost_37 : decode cX5_cost 37 = .ok (.iaload, 1) := by decide +kernel
theorem dX5_cost_38 : decode cX5_cost 38 = .ok (.i2l, 1) := by decide +kernel
theorem dX5_cost_39 : decode cX5_cost 39 = .ok (.aload_n 0, 1) := by decide +kernel
theorem dX5_cost_40 : decode cX5_cost 40 = .ok (.getfield 26, 3) := by decide +kernel
theorem dX5_cost_43 : decode cX5_cost 43 = .ok (.getfield 43, 3) := by decide +kernel
theorem dX5_cost_46 : decode cX5_cost 46 = .ok (.iload_n 2, 1) := by decide +kernel
theorem dX5_cost_47 : decode cX5_cost 47 = .ok (.iaload, 1) := by decide +kernel
theorem dX5_cost_48 : decode cX5_cost 48 = .ok (.i2l, 1) := by decide +kernel
theorem dX5_cost_49 : decode cX5_cost 49 = .ok (.lmul, 1) := by decide +kernel
theorem dX5_cost_50 : decode cX5_cost 50 = .ok (.lstore 5, 2) := by decide +kernel
theorem dX5_cost_52 : decode cX5_cost 52 = .ok (.lload 5, 2) := by decide +kernel
theorem dX5_cost_54 : decode cX5_cost 54 = .ok (.aload_n 0, 1) := by decide +kernel
theorem dX5_cost_55 : decode cX5_cost 55 = .ok (.getfield 22, 3) := by decide +kernel
theorem dX5_cost_58 : decode cX5_cost 58 = .ok (.aload_n 0, 1) := by decide +kernel
theorem dX5_cost_59 : decode cX5_cost 59 = .ok (.getfield 22, 3) := by decide +kernel
theorem dX5_cost_62 : decode cX5_cost 62 = .ok (.getfield 58, 3) := by decide +kernel
theorem dX5_cost_65 : decode cX5_cost 65 = .ok (.iload_n 1, 1) := by decide +kernel
theorem dX5_cost_66 : decode cX5_cost 66 = .ok (.iaload, 1) := by decide +kernel
theorem dX5_cost_67 : decode cX5_cost 67 = .ok (.aload_n 0, 1) := by decide +kernel
theorem dX5_cost_68 : decode cX5_cost 68 = .ok (.getfield 22, 3) := by decide +kernel
theorem dX5_cost_71 : decode cX5_cost 71 = .ok (.getfield 58, 3) := by decide +kernel
theorem dX5_cost_74 : decode cX5_cost 74 = .ok (.iload_n 2, 1) := by decide +kernel
theorem dX5_cost_75 : decode cX5_cost 75 = .ok (.iaload, 1) := by decide +kernel
theorem dX5_cost_76 : decode cX5_cost 76 = .ok (.invokevirtual 89, 3) := by decide +kernel
theorem dX5_cost_79 : decode cX5_cost 79 = .ok (.i2l, 1) := by decide +kernel
theorem dX5_cost_80 : decode cX5_cost 80 = .ok (.lmul, 1) := by decide +kernel
theorem dX5_cost_81 : decode cX5_cost 81 = .ok (.lload_n 3, 1) := by decide +kernel
theorem dX5_cost_82 : decode cX5_cost 82 = .ok (.ldiv, 1) := by decide +kernel
theorem dX5_cost_83 : decode cX5_cost 83 = .ok (.lreturn, 1) := by decide +kernel
theorem dX5_joinPair_0 : decode cX5_joinPair 0 = .ok (.aload_n 0, 1) := by decide +kernel
theorem dX5_joinPair_1 : decode cX5_joinPair 1 = .ok (.getfield 22, 3) := by decide +kernel
theorem dX5_joinPair_4 : decode cX5_joinPair 4 = .ok (.aload_n 0, 1) := by decide +kernel
theorem dX5_joinPair_5 : decode cX5_joinPair 5 = .ok (.getfield 15, 3) := by decide +kernel
theorem dX5_joinPair_8 : decode cX5_joinPair 8 = .ok (.invokevirtual 68, 3) := by decide +kernel
theorem dX5_joinPair_11 : decode cX5_joinPair 11 = .ok (.ifCond .eq 17, 3) := by decide +kernel
theorem dX5_joinPair_14 : decode cX5_joinPair 14 = .ok (.aload_n 0, 1) := by decide +kernel
theorem dX5_joinPair_15 : decode cX5_joinPair 15 = .ok (.getfield 22, 3) := by decide +kernel
theorem dX5_joinPair_18 : decode cX5_joinPair 18 = .ok (.aload_n 0, 1) := by decide +kernel
theorem dX5_joinPair_19 : decode cX5_joinPair 19 = .ok (.getfield 19, 3) := by decide +kernel
theorem dX5_joinPair_22 : decode cX5_joinPair 22 = .ok (.invokevirtual 68, 3) := by decide +kernel
theorem dX5_joinPair_25 : decode cX5_joinPair 25 = .ok (.ifCond .ne 4, 3) := by decide +kernel
theorem dX5_joinPair_28 : decode cX5_joinPair 28 = .ok (.return_, 1) := by decide +kernel
theorem dX5_joinPair_29 : decode cX5_joinPair 29 = .ok (.aload_n 0, 1) := by decide +kernel
theorem dX5_joinPair_30 : decode cX5_joinPair 30 = .ok (.getfield 22, 3) := by decide +kernel
theorem dX5_joinPair_33 : decode cX5_joinPair 33 = .ok (.getfield 46, 3) := by decide +kernel
theorem dX5_joinPair_36 : decode cX5_joinPair 36 = .ok (.aload_n 0, 1) := by decide +kernel
theorem dX5_joinPair_37 : decode cX5_joinPair 37 = .ok (.getfield 19, 3) := by decide +kernel
theorem dX5_joinPair_40 : decode cX5_joinPair 40 = .ok (.baload, 1) := by decide +kernel
theorem dX5_joinPair_41 : decode cX5_joinPair 41 = .ok (.ifCond .eq 43, 3) := by decide +kernel
theorem dX5_joinPair_44 : decode cX5_joinPair 44 = .ok (.aload_n 0, 1) := by decide +kernel
theorem dX5_joinPair_45 : decode cX5_joinPair 45 = .ok (.getfield 22, 3) := by decide +kernel
theorem dX5_joinPair_48 : decode cX5_joinPair 48 = .ok (.getfield 58, 3) := by decide +kernel
theorem dX5_joinPair_51 : decode cX5_joinPair 51 = .ok (.aload_n 0, 1) := by decide +kernel
theorem dX5_joinPair_52 : decode cX5_joinPair 52 = .ok (.getfield 15, 3) := by decide +kernel
theorem dX5_joinPair_55 : decode cX5_joinPair 55 = .ok (.aload_n 0, 1) := by decide +kernel
theorem dX5_joinPair_56 : decode cX5_joinPair 56 = .ok (.getfield 22, 3) := by decide +kernel
theorem dX5_joinPair_59 : decode cX5_joinPair 59 = .ok (.getfield 58, 3) := by decide +kernel
theorem dX5_joinPair_62 : decode cX5_joinPair 62 = .ok (.aload_n 0, 1) := by decide +kernel
theorem dX5_joinPair_63 : decode cX5_joinPair 63 = .ok (.getfield 19, 3) := by decide +kernel
theorem dX5_joinPair_66 : decode cX5_joinPair 66 = .ok (.iaload, 1) := by decide +kernel
theorem dX5_joinPair_67 : decode cX5_joinPair 67 = .ok (.iastore, 1) := by decide +kernel
theorem dX5_joinPair_68 : decode cX5_joinPair 68 = .ok (.aload_n 0, 1) := by decide +kernel
theorem dX5_joinPair_69 : decode cX5_joinPair 69 = .ok (.getfield 22, 3) := by decide +kernel
theorem dX5_joinPair_72 : decode cX5_joinPair 72 = .ok (.getfield 46, 3) := by decide +kernel
theorem dX5_joinPair_75 : decode cX5_joinPair 75 = .ok (.aload_n 0, 1) := by decide +kernel
theorem dX5_joinPair_76 : decode cX5_joinPair 76 = .ok (.getfield 15, 3) := by decide +kernel
theorem dX5_joinPair_79 : decode cX5_joinPair 79 = .ok (.iconst 1, 1) := by decide +kernel
theorem dX5_joinPair_80 : decode cX5_joinPair 80 = .ok (.bastore, 1) := by decide +kernel
theorem dX5_joinPair_81 : decode cX5_joinPair 81 = .ok (.goto 62, 3) := by decide +kernel
theorem dX5_joinPair_84 : decode cX5_joinPair 84 = .ok (.aload_n 0, 1) := by decide +kernel
theorem dX5_joinPair_85 : decode cX5_joinPair 85 = .ok (.getfield 22, 3) := by decide +kernel
theorem dX5_joinPair_88 : decode cX5_joinPair 88 = .ok (.getfield 46, 3) := by decide +kernel
theorem dX5_joinPair_91 : decode cX5_joinPair 91 = .ok (.aload_n 0, 1) := by decide +kernel
theorem dX5_joinPair_92 : decode cX5_joinPair 92 = .ok (.getfield 15, 3) := by decide +kernel
theorem dX5_joinPair_95 : decode cX5_joinPair 95 = .ok (.baload, 1) := by decide +kernel
theorem dX5_joinPair_96 : decode cX5_joinPair 96 = .ok (.ifCond .ne 47, 3) := by decide +kernel
theorem dX5_joinPair_99 : decode cX5_joinPair 99 = .ok (.aload_n 0, 1) := by decide +kernel
theorem dX5_joinPair_100 : decode cX5_joinPair 100 = .ok (.getfield 26, 3) := by decide +kernel
theorem dX5_joinPair_103 : decode cX5_joinPair 103 = .ok (.getfield 43, 3) := by decide +kernel
theorem dX5_joinPair_106 : decode cX5_joinPair 106 = .ok (.aload_n 0, 1) := by decide +kernel
theorem dX5_joinPair_107 : decode cX5_joinPair 107 = .ok (.getfield 15, 3) := by decide +kernel
theorem dX5_joinPair_110 : decode cX5_joinPair 110 = .ok (.iaload, 1) := by decide +kernel
theorem dX5_joinPair_111 : decode cX5_joinPair 111 = .ok (.aload_n 0, 1) := by decide +kernel
theorem dX5_joinPair_112 : decode cX5_joinPair 112 = .ok (.getfield 26, 3) := by decide +kernel
theorem dX5_joinPair_115 : decode cX5_joinPair 115 = .ok (.getfield 43, 3) := by decide +kernel
theorem dX5_joinPair_118 : decode cX5_joinPair 118 = .ok (.aload_n 0, 1) := by decide +kernel
theorem dX5_joinPair_119 : decode cX5_joinPair 119 = .ok (.getfield 19, 3) := by decide +kernel
theorem dX5_joinPair_122 : decode cX5_joinPair 122 = .ok (.iaload, 1) := by decide +kernel
theorem dX5_joinPair_123 : decode cX5_joinPair 123 = .ok (.iadd, 1) := by decide +kernel
theorem dX5_joinPair_124 : decode cX5_joinPair 124 = .ok (.ifCond .le 19, 3) := by decide +kernel
theorem dX5_joinPair_127 : decode cX5_joinPair 127 = .ok (.aload_n 0, 1) := by decide +kernel
theorem dX5_joinPair_128 : decode cX5_joinPair 128 = .ok (.getfield 22, 3) := by decide +kernel
theorem dX5_joinPair_131 : decode cX5_joinPair 131 = .ok (.getfield 58, 3) := by decide +kernel
theorem dX5_joinPair_134 : decode cX5_joinPair 134 = .ok (.aload_n 0, 1) := by decide +kernel
theorem dX5_joinPair_135 : decode cX5_joinPair 135 = .ok (.getfield 15, 3) := by decide +kernel
theorem dX5_joinPair_138 : decode cX5_joinPair 138 = .ok (.aload_n 0, 1) := by decide +kernel
theorem dX5_joinPair_139 : decode cX5_joinPair 139 = .ok (.invokevirtual 92, 3) := by decide +kernel
theorem dX5_joinPair_142 : decode cX5_joinPair 142 = .ok (.iastore, 1) := by decide +kernel
theorem dX5_joinPair_143 : decode cX5_joinPair 143 = .ok (.aload_n 0, 1) := by decide +kernel
theorem dX5_joinPair_144 : decode cX5_joinPair 144 = .ok (.getfield 22, 3) := by decide +kernel
theorem dX5_joinPair_147 : decode cX5_joinPair 147 = .ok (.aload_n 0, 1) := by decide +kernel
theorem dX5_joinPair_148 : decode cX5_joinPair 148 = .ok (.getfield 19, 3) := by decide +kernel
theorem dX5_joinPair_151 : decode cX5_joinPair 151 = .ok (.invokevirtual 95, 3) := by decide +kernel
theorem dX5_joinPair_154 : decode cX5_joinPair 154 = .ok (.return_, 1) := by decide +kernel
theorem dX5_mixedColor_0 : decode cX5_mixedColor 0 = .ok (.aload_n 0, 1) := by decide +kernel
theorem dX5_mixedColor_1 : decode cX5_mixedColor 1 = .ok (.getfield 26, 3) := by decide +kernel
theorem dX5_mixedColor_4 : decode cX5_mixedColor 4 = .ok (.getfield 43, 3) := by decide +kernel
theorem dX5_mixedColor_7 : decode cX5_mixedColor 7 = .ok (.aload_n 0, 1) := by decide +kernel
theorem dX5_mixedColor_8 : decode cX5_mixedColor 8 = .ok (.getfield 15, 3) := by decide +kernel
theorem dX5_mixedColor_11 : decode cX5_mixedColor 11 = .ok (.iaload, 1) := by decide +kernel
theorem dX5_mixedColor_12 : decode cX5_mixedColor 12 = .ok (.istore_n 1, 1) := by decide +kernel
theorem dX5_mixedColor_13 : decode cX5_mixedColor 13 = .ok (.aload_n 0, 1) := by decide +kernel
theorem dX5_mixedColor_14 : decode cX5_mixedColor 14 = .ok (.getfield 26, 3) := by decide +kernel
theorem dX5_mixedColor_17 : decode cX5_mixedColor 17 = .ok (.getfield 43, 3) := by decide +kernel
theorem dX5_mixedColor_20 : decode cX5_mixedColor 20 = .ok (.aload_n 0, 1) := by decide +kernel
theorem dX5_mixedColor_21 : decode cX5_mixedColor 21 = .ok (.getfield 19, 3) := by decide +kernel
theorem dX5_mixedColor_24 : decode cX5_mixedColor 24 = .ok (.iaload, 1) := by decide +kernel
theorem dX5_mixedColor_25 : decode cX5_mixedColor 25 = .ok (.istore_n 2, 1) := by decide +kernel
theorem dX5_mixedColor_26 : decode cX5_mixedColor 26 = .ok (.iconst 0, 1) := by decide +kernel
theorem dX5_mixedColor_27 : decode cX5_mixedColor 27 = .ok (.istore_n 3, 1) := by decide +kernel
theorem dX5_mixedColor_28 : decode cX5_mixedColor 28 = .ok (.iconst 0, 1) := by decide +kernel
theorem dX5_mixedColor_29 : decode cX5_mixedColor 29 = .ok (.istore 4, 2) := by decide +kernel
theorem dX5_mixedColor_31 : decode cX5_mixedColor 31 = .ok (.iload 4, 2) := by decide +kernel
theorem dX5_mixedColor_33 : decode cX5_mixedColor 33 = .ok (.iconst 3, 1) := by decide +kernel
theorem dX5_mixedColor_34 : decode cX5_mixedColor 34 = .ok (.if_icmp .ge 69, 3) := by decide +kernel
theorem dX5_mixedColor_37 : decode cX5_mixedColor 37 = .ok (.aload_n 0, 1) := by decide +kernel
theorem dX5_mixedColor_38 : decode cX5_mixedColor 38 = .ok (.getfield 22, 3) := by decide +kernel
theorem dX5_mixedColor_41 : decode cX5_mixedColor 41 = .ok (.getfield 58, 3) := by decide +kernel
theorem dX5_mixedColor_44 : decode cX5_mixedColor 44 = .ok (.aload_n 0, 1) := by decide +kernel
theorem dX5_mixedColor_45 : decode cX5_mixedColor 45 = .ok (.getfield 15, 3) := by decide +kernel
theorem dX5_mixedColor_48 : decode cX5_mixedColor 48 = .ok (.iaload, 1) := by decide +kernel
theorem dX5_mixedColor_49 : decode cX5_mixedColor 49 = .ok (.iload 4, 2) := by decide +kernel
theorem dX5_mixedColor_51 : decode cX5_mixedColor 51 = .ok (.invokestatic 75, 3) := by decide +kernel
theorem dX5_mixedColor_54 : decode cX5_mixedColor 54 = .ok (.istore 5, 2) := by decide +kernel
theorem dX5_mixedColor_56 : decode cX5_mixedColor 56 = .ok (.aload_n 0, 1) := by decide +kernel
theorem dX5_mixedColor_57 : decode cX5_mixedColor 57 = .ok (.getfield 22, 3) := by decide +kernel
theorem dX5_mixedColor_60 : decode cX5_mixedColor 60 = .ok (.getfield 58, 3) := by decide +kernel
theorem dX5_mixedColor_63 : decode cX5_mixedColor 63 = .ok (.aload_n 0, 1) := by decide +kernel
theorem dX5_mixedColor_64 : decode cX5_mixedColor 64 = .ok (.getfield 19, 3) := by decide +kernel
theorem dX5_mixedColor_67 : decode cX5_mixedColor 67 = .ok (.iaload, 1) := by decide +kernel
theorem dX5_mixedColor_68 : decode cX5_mixedColor 68 = .ok (.iload 4, 2) := by decide +kernel
theorem dX5_mixedColor_70 : decode cX5_mixedColor 70 = .ok (.invokestatic 75, 3) := by decide +kernel
theorem dX5_mixedColor_73 : decode cX5_mixedColor 73 = .ok (.istore 6, 2) := by decide +kernel
theorem dX5_mixedColor_75 : decode cX5_mixedColor 75 = .ok (.sipush 256, 3) := by decide +kernel
theorem dX5_mixedColor_78 : decode cX5_mixedColor 78 = .ok (.iload_n 3, 1) := by decide +kernel
theorem dX5_mixedColor_79 : decode cX5_mixedColor 79 = .ok (.imul, 1) := by decide +kernel
theorem dX5_mixedColor_80 : decode cX5_mixedColor 80 = .ok (.iload_n 1, 1) := by decide +kernel
theorem dX5_mixedColor_81 : decode cX5_mixedColor 81 = .ok (.iload 5, 2) := by decide +kernel
theorem dX5_mixedColor_83 : decode cX5_mixedColor 83 = .ok (.imul, 1) := by decide +kernel
theorem dX5_mixedColor_84 : decode cX5_mixedColor 84 = .ok (.iload_n 2, 1) := by decide +kernel
theorem dX5_mixedColor_85 : decode cX5_mixedColor 85 = .ok (.iload 6, 2) := by decide +kernel
theorem dX5_mixedColor_87 : decode cX5_mixedColor 87 = .ok (.imul, 1) := by decide +kernel
theorem dX5_mixedColor_88 : decode cX5_mixedColor 88 = .ok (.iadd, 1) := by decide +kernel
theorem dX5_mixedColor_89 : decode cX5_mixedColor 89 = .ok (.iload_n 1, 1) := by decide +kernel
theorem dX5_mixedColor_90 : decode cX5_mixedColor 90 = .ok (.iload_n 2, 1) := by decide +kernel
theorem dX5_mixedColor_91 : decode cX5_mixedColor 91 = .ok (.iadd, 1) := by decide +kernel
theorem dX5_mixedColor_92 : decode cX5_mixedColor 92 = .ok (.invokestatic 50, 3) := by decide +kernel
theorem dX5_mixedColor_95 : decode cX5_mixedColor 95 = .ok (.iadd, 1) := by decide +kernel
theorem dX5_mixedColor_96 : decode cX5_mixedColor 96 = .ok (.istore_n 3, 1) := by decide +kernel
theorem dX5_mixedColor_97 : decode cX5_mixedColor 97 = .ok (.iinc 4 1, 3) := by decide +kernel
theorem dX5_mixedColor_100 : decode cX5_mixedColor 100 = .ok (.goto (-69), 3) := by decide +kernel
theorem dX5_mixedColor_103 : decode cX5_mixedColor 103 = .ok (.iload_n 3, 1) := by decide +kernel
theorem dX5_mixedColor_104 : decode cX5_mixedColor 104 = .ok (.ireturn, 1) := by decide +kernel
theorem dX6_init_0 : decode cX6_init 0 = .ok (.aload_n 0, 1) := by decide +kernel
theorem dX6_init_1 : decode cX6_init 1 = .ok (.invokespecial 3, 3) := by decide +kernel
theorem dX6_init_4 : decode cX6_init 4 = .ok (.aload_n 0, 1) := by decide +kernel
theorem dX6_init_5 : decode cX6_init 5 = .ok (.aload_n 1, 1) := by decide +kernel
theorem dX6_init_6 : decode cX6_init 6 = .ok (.putfield 9, 3) := by decide +kernel
theorem dX6_init_9 : decode cX6_init 9 = .ok (.return_, 1) := by decide +kernel
theorem dX6_totalError_0 : decode cX6_totalError 0 = .ok (.iconst 0, 1) := by decide +kernel
theorem dX6_totalError_1 : decode cX6_totalError 1 = .ok (.istore_n 1, 1) := by decide +kernel
theorem dX6_totalError_2 : decode cX6_totalError 2 = .ok (.iconst 0, 1) := by decide +kernel
theorem dX6_totalError_3 : decode cX6_totalError 3 = .ok (.istore_n 2, 1) := by decide +kernel
theorem dX6_totalError_4 : decode cX6_totalError 4 = .ok (.iload_n 2, 1) := by decide +kernel
theorem dX6_totalError_5 : decode cX6_totalError 5 = .ok (.aload_n 0, 1) := by decide +kernel
theorem dX6_totalError_6 : decode cX6_totalError 6 = .ok (.getfield 9, 3) := by decide +kernel
theorem dX6_totalError_9 : decode cX6_totalError 9 = .ok (.invokevirtual 15, 3) := by decide +kernel
theorem dX6_totalError_12 : decode cX6_totalError 12 = .ok (.if_icmp .ge 31, 3) := by decide +kernel
theorem dX6_totalError_15 : decode cX6_totalError 15 = .ok (.aload_n 0, 1) := by decide +kernel
theorem dX6_totalError_16 : decode cX6_totalError 16 = .ok (.getfield 9, 3) := by decide +kernel
theorem dX6_totalError_19 : decode cX6_totalError 19 = .ok (.iload_n 2, 1) := by decide +kernel
theorem dX6_totalError_20 : decode cX6_totalError 20 = .ok (.invokevirtual 21, 3) := by decide +kernel
theorem dX6_totalError_23 : decode cX6_totalError 23 = .ok (.ifCond .eq 14, 3) := by decide +kernel
theorem dX6_totalError_26 : decode cX6_totalError 26 = .ok (.iload_n 1, 1) := by decide +kernel
theorem dX6_totalError_27 : decode cX6_totalError 27 = .ok (.aload_n 0, 1) := by decide +kernel
theorem dX6_totalError_28 : decode cX6_totalError 28 = .ok (.getfield 9, 3) := by decide +kernel
theorem dX6_totalError_31 : decode cX6_totalError 31 = .ok (.iload_n 2, 1) := by decide +kernel
theorem dX6_totalError_32 : decode cX6_totalError 32 = .ok (.invokevirtual 25, 3) := by decide +kernel
theorem dX6_totalError_35 : decode cX6_totalError 35 = .ok (.iadd, 1) := by decide +kernel
theorem dX6_totalError_36 : decode cX6_totalError 36 = .ok (.istore_n 1, 1) := by decide +kernel
theorem dX6_totalError_37 : decode cX6_totalError 37 = .ok (.iinc 2 1, 3) := by decide +kernel
theorem dX6_totalError_40 : decode cX6_totalError 40 = .ok (.goto (-36), 3) := by decide +kernel
theorem dX6_totalError_43 : decode cX6_totalError 43 = .ok (.iload_n 1, 1) := by decide +kernel
theorem dX6_totalError_44 : decode cX6_totalError 44 = .ok (.ireturn, 1) := by decide +kernel
theorem dX6_worstPixel_0 : decode cX6_worstPixel 0 = .ok (.iconst (-1), 1) := by decide +kernel
theorem dX6_worstPixel_1 : decode cX6_worstPixel 1 = .ok (.istore_n 1, 1) := by decide +kernel
theorem dX6_worstPixel_2 : decode cX6_worstPixel 2 = .ok (.iconst (-1), 1) := by decide +kernel
theorem dX6_worstPixel_3 : decode cX6_worstPixel 3 = .ok (.istore_n 2, 1) := by decide +kernel
theorem dX6_worstPixel_4 : decode cX6_worstPixel 4 = .ok (.iconst 0, 1) := by decide +kernel
theorem dX6_worstPixel_5 : decode cX6_worstPixel 5 = .ok (.istore_n 3, 1) := by decide +kernel
theorem dX6_worstPixel_6 : decode cX6_worstPixel 6 = .ok (.iload_n 3, 1) := by decide +kernel
theorem dX6_worstPixel_7 : decode cX6_worstPixel 7 = .ok (.aload_n 0, 1) := by decide +kernel
theorem dX6_worstPixel_8 : decode cX6_worstPixel 8 = .ok (.getfield 9, 3) := by decide +kernel
theorem dX6_worstPixel_11 : decode cX6_worstPixel 11 = .ok (.getfield 29, 3) := by decide +kernel
theorem dX6_worstPixel_14 : decode cX6_worstPixel 14 = .ok (.if_icmp .ge 85, 3) := by decide +kernel
theorem dX6_worstPixel_17 : decode cX6_worstPixel 17 = .ok (.iconst 0, 1) := by decide +kernel
theorem dX6_worstPixel_18 : decode cX6_worstPixel 18 = .ok (.istore 4, 2) := by decide +kernel
theorem dX6_worstPixel_20 : decode cX6_worstPixel 20 = .ok (.iload 4, 2) := by decide +kernel
theorem dX6_worstPixel_22 : decode cX6_worstPixel 22 = .ok (.aload_n 0, 1) := by decide +kernel
theorem dX6_worstPixel_23 : decode cX6_worstPixel 23 = .ok (.getfield 9, 3) := by decide +kernel
theorem dX6_worstPixel_26 : decode cX6_worstPixel 26 = .ok (.getfield 33, 3) := by decide +kernel
theorem dX6_worstPixel_29 : decode cX6_worstPixel 29 = .ok (.if_icmp .ge 64, 3) := by decide +kernel
theorem dX6_worstPixel_32 : decode cX6_worstPixel 32 = .ok (.aload_n 0, 1) := by decide +kernel
theorem dX6_worstPixel_33 : decode cX6_worstPixel 33 = .ok (.getfield 9, 3) := by decide +kernel
theorem dX6_worstPixel_36 : decode cX6_worstPixel 36 = .ok (.iload 4, 2) := by decide +kernel
theorem dX6_worstPixel_38 : decode cX6_worstPixel 38 = .ok (.iload_n 3, 1) := by decide +kernel
theorem dX6_worstPixel_39 : decode cX6_worstPixel 39 = .ok (.invokevirtual 36, 3) := by decide +kernel
theorem dX6_worstPixel_42 : decode cX6_worstPixel 42 = .ok (.istore 5, 2) := by decide +kernel
theorem dX6_worstPixel_44 : decode cX6_worstPixel 44 = .ok (.aload_n 0, 1) := by decide +kernel
theorem dX6_worstPixel_45 : decode cX6_worstPixel 45 = .ok (.getfield 9, 3) := by decide +kernel
theorem dX6_worstPixel_48 : decode cX6_worstPixel 48 = .ok (.iload 5, 2) := by decide +kernel
theorem dX6_worstPixel_50 : decode cX6_worstPixel 50 = .ok (.invokevirtual 21, 3) := by decide +kernel
theorem dX6_worstPixel_53 : decode cX6_worstPixel 53 = .ok (.ifCond .eq 34, 3) := by decide +kernel
theorem dX6_worstPixel_56 : decode cX6_worstPixel 56 = .ok (.aload_n 0, 1) := by decide +kernel
theorem dX6_worstPixel_57 : decode cX6_worstPixel 57 = .ok (.getfield 9, 3) := by decide +kernel
theorem dX6_worstPixel_60 : decode cX6_worstPixel 60 = .ok (.iload 5, 2) := by decide +kernel
theorem dX6_worstPixel_62 : decode cX6_worstPixel 62 = .ok (.invokevirtual 25, 3) := by decide +kernel
theorem dX6_worstPixel_65 : decode cX6_worstPixel 65 = .ok (.iload_n 2, 1) := by decide +kernel
theorem dX6_worstPixel_66 : decode cX6_worstPixel 66 = .ok (.if_icmp .le 21, 3) := by decide +kernel
theorem dX6_worstPixel_69 : decode cX6_worstPixel 69 = .ok (.bipush 16, 2) := by decide +kernel
theorem dX6_worstPixel_71 : decode cX6_worstPixel 71 = .ok (.iload_n 3, 1) := by decide +kernel
theorem dX6_worstPixel_72 : decode cX6_worstPixel 72 = .ok (.imul, 1) := by decide +kernel
theorem dX6_worstPixel_73 : decode cX6_worstPixel 73 = .ok (.iload 4, 2) := by decide +kernel
theorem dX6_worstPixel_75 : decode cX6_worstPixel 75 = .ok (.iadd, 1) := by decide +kernel
theorem dX6_worstPixel_76 : decode cX6_worstPixel 76 = .ok (.istore_n 1, 1) := by decide +kernel
theorem dX6_worstPixel_77 : decode cX6_worstPixel 77 = .ok (.aload_n 0, 1) := by decide +kernel
theorem dX6_worstPixel_78 : decode cX6_worstPixel 78 = .ok (.getfield 9, 3) := by decide +kernel
theorem dX6_worstPixel_81 : decode cX6_worstPixel 81 = .ok (.iload 5, 2) := by decide +kernel
theorem dX6_worstPixel_83 : decode cX6_worstPixel 83 = .ok (.invokevirtual 25, 3) := by decide +kernel
theorem dX6_worstPixel_86 : decode cX6_worstPixel 86 = .ok (.istore_n 2, 1) := by decide +kernel
theorem dX6_worstPixel_87 : decode cX6_worstPixel 87 = .ok (.iinc 4 1, 3) := by decide +kernel
theorem dX6_worstPixel_90 : decode cX6_worstPixel 90 = .ok (.goto (-70), 3) := by decide +kernel
theorem dX6_worstPixel_93 : decode cX6_worstPixel 93 = .ok (.iinc 3 1, 3) := by decide +kernel
theorem dX6_worstPixel_96 : decode cX6_worstPixel 96 = .ok (.goto (-90), 3) := by decide +kernel
theorem dX6_worstPixel_99 : decode cX6_worstPixel 99 = .ok (.iload_n 1, 1) := by decide +kernel
theorem dX6_worstPixel_100 : decode cX6_worstPixel 100 = .ok (.ireturn, 1) := by decide +kernel
theorem dX6_meanErrorBits_0 : decode cX6_meanErrorBits 0 = .ok (.aload_n 0, 1) := by decide +kernel
theorem dX6_meanErrorBits_1 : decode cX6_meanErrorBits 1 = .ok (.getfield 9, 3) := by decide +kernel
theorem dX6_meanErrorBits_4 : decode cX6_meanErrorBits 4 = .ok (.invokevirtual 40, 3) := by decide +kernel
theorem dX6_meanErrorBits_7 : decode cX6_meanErrorBits 7 = .ok (.istore_n 1, 1) := by decide +kernel
theorem dX6_meanErrorBits_8 : decode cX6_meanErrorBits 8 = .ok (.iload_n 1, 1) := by decide +kernel
theorem dX6_meanErrorBits_9 : decode cX6_meanErrorBits 9 = .ok (.ifCond .le 17, 3) := by decide +kernel
theorem dX6_meanErrorBits_12 : decode cX6_meanErrorBits 12 = .ok (.aload_n 0, 1) := by decide +kernel
theorem dX6_meanErrorBits_13 : decode cX6_meanErrorBits 13 = .ok (.invokevirtual 43, 3) := by decide +kernel
theorem dX6_meanErrorBits_16 : decode cX6_meanErrorBits 16 = .ok (.i2f, 1) := by decide +kernel
theorem dX6_meanErrorBits_17 : decode cX6_meanErrorBits 17 = .ok (.iload_n 1, 1) := by decide +kernel
theorem dX6_meanErrorBits_18 : decode cX6_meanErrorBits 18 = .ok (.i2f, 1) := by decide +kernel
theorem dX6_meanErrorBits_19 : decode cX6_meanErrorBits 19 = .ok (.fdiv, 1) := by decide +kernel
theorem dX6_meanErrorBits_20 : decode cX6_meanErrorBits 20 = .ok (.invokestatic 46, 3) := by decide +kernel
theorem dX6_meanErrorBits_23 : decode cX6_meanErrorBits 23 = .ok (.goto 4, 3) := by decide +kernel
theorem dX6_meanErrorBits_26 : decode cX6_meanErrorBits 26 = .ok (.iconst (-1), 1) := by decide +kernel
theorem dX6_meanErrorBits_27 : decode cX6_meanErrorBits 27 = .ok (.ireturn, 1) := by decide +kernel
theorem dX6_bitsOf_0 : decode cX6_bitsOf 0 = .ok (.fload_n 0, 1) := by decide +kernel
theorem dX6_bitsOf_1 : decode cX6_bitsOf 1 = .ok (.fconst 0, 1) := by decide +kernel
theorem dX6_bitsOf_2 : decode cX6_bitsOf 2 = .ok (.fcmp .g, 1) := by decide +kernel
theorem dX6_bitsOf_3 : decode cX6_bitsOf 3 = .ok (.ifCond .gt 5, 3) := by decide +kernel
theorem dX6_bitsOf_6 : decode cX6_bitsOf 6 = .ok (.iconst 0, 1) := by decide +kernel
theorem dX6_bitsOf_7 : decode cX6_bitsOf 7 = .ok (.ireturn, 1) := by decide +kernel
theorem dX6_bitsOf_8 : decode cX6_bitsOf 8 = .ok (.fload_n 0, 1) := by decide +kernel
theorem dX6_bitsOf_9 : decode cX6_bitsOf 9 = .ok (.fstore_n 1, 1) := by decide +kernel
theorem dX6_bitsOf_10 : decode cX6_bitsOf 10 = .ok (.sipush 150, 3) := by decide +kernel
theorem dX6_bitsOf_13 : decode cX6_bitsOf 13 = .ok (.istore_n 2, 1) := by decide +kernel
theorem dX6_bitsOf_14 : decode cX6_bitsOf 14 = .ok (.iload_n 2, 1) := by decide +kernel
theorem dX6_bitsOf_15 : decode cX6_bitsOf 15 = .ok (.iconst 1, 1) := by decide +kernel
theorem dX6_bitsOf_16 : decode cX6_bitsOf 16 = .ok (.if_icmp .le 20, 3) := by decide +kernel
theorem dX6_bitsOf_19 : decode cX6_bitsOf 19 = .ok (.fload_n 1, 1) := by decide +kernel
theorem dX6_bitsOf_20 : decode cX6_bitsOf 20 = .ok (.ldc 50, 2) := by decide +kernel
theorem dX6_bitsOf_22 : decode cX6_bitsOf 22 = .ok (.fcmp .g, 1) := by decide +kernel
theorem dX6_bitsOf_23 : decode cX6_bitsOf 23 = .ok (.ifCond .ge 13, 3) := by decide +kernel
theorem dX6_bitsOf_26 : decode cX6_bitsOf 26 = .ok (.fload_n 1, 1) := by decide +kernel
theorem dX6_bitsOf_27 : decode cX6_bitsOf 27 = .ok (.fconst 2, 1) := by decide +kernel
theorem dX6_bitsOf_28 : decode cX6_bitsOf 28 = .ok (.fmul, 1) := by decide +kernel
theorem dX6_bitsOf_29 : decode cX6_bitsOf 29 = .ok (.fstore_n 1, 1) := by decide +kernel
theorem dX6_bitsOf_30 : decode cX6_bitsOf 30 = .ok (.iinc 2 (-1), 3) := by decide +kernel
theorem dX6_bitsOf_33 : decode cX6_bitsOf 33 = .ok (.goto (-19), 3) := by decide +kernel
theorem dX6_bitsOf_36 : decode cX6_bitsOf 36 = .ok (.iload_n 2, 1) := by decide +kernel
theorem dX6_bitsOf_37 : decode cX6_bitsOf 37 = .ok (.bipush 23, 2) := by decide +kernel
theorem dX6_bitsOf_39 : decode cX6_bitsOf 39 = .ok (.ishl, 1) := by decide +kernel
theorem dX6_bitsOf_40 : decode cX6_bitsOf 40 = .ok (.fload_n 1, 1) := by decide +kernel
theorem dX6_bitsOf_41 : decode cX6_bitsOf 41 = .ok (.f2i, 1) := by decide +kernel
theorem dX6_bitsOf_42 : decode cX6_bitsOf 42 = .ok (.ldc 51, 2) := by decide +kernel
theorem dX6_bitsOf_44 : decode cX6_bitsOf 44 = .ok (.isub, 1) := by decide +kernel
theorem dX6_bitsOf_45 : decode cX6_bitsOf 45 = .ok (.iadd, 1) := by decide +kernel
theorem dX6_bitsOf_46 : decode cX6_bitsOf 46 = .ok (.ireturn, 1) := by decide +kernel
theorem dX6_indexRuns_0 : decode cX6_indexRuns 0 = .ok (.iconst 1, 1) := by decide +kernel
theorem dX6_indexRuns_1 : decode cX6_indexRuns 1 = .ok (.istore_n 1, 1) := by decide +kernel
theorem dX6_indexRuns_2 : decode cX6_indexRuns 2 = .ok (.iconst 1, 1) := by decide +kernel
theorem dX6_indexRuns_3 : decode cX6_indexRuns 3 = .ok (.istore_n 2, 1) := by decide +kernel
theorem dX6_indexRuns_4 : decode cX6_indexRuns 4 = .ok (.iload_n 2, 1) := by decide +kernel
theorem dX6_indexRuns_5 : decode cX6_indexRuns 5 = .ok (.aload_n 0, 1) := by decide +kernel
theorem dX6_indexRuns_6 : decode cX6_indexRuns 6 = .ok (.getfield 9, 3) := by decide +kernel
theorem dX6_indexRuns_9 : decode cX6_indexRuns 9 = .ok (.invokevirtual 15, 3) := by decide +kernel
theorem dX6_indexRuns_12 : decode cX6_indexRuns 12 = .ok (.if_icmp .ge 35, 3) := by decide +kernel
theorem dX6_indexRuns_15 : decode cX6_indexRuns 15 = .ok (.aload_n 0, 1) := by decide +kernel
theorem dX6_indexRuns_16 : decode cX6_indexRuns 16 = .ok (.getfield 9, 3) := by decide +kernel
theorem dX6_indexRuns_19 : decode cX6_indexRuns 19 = .ok (.getfield 52, 3) := by decide +kernel
theorem dX6_indexRuns_22 : decode cX6_indexRuns 22 = .ok (.iload_n 2, 1) := by decide +kernel
theorem dX6_indexRuns_23 : decode cX6_indexRuns 23 = .ok (.iaload, 1) := by decide +kernel
theorem dX6_indexRuns_24 : decode cX6_indexRuns 24 = .ok (.aload_n 0, 1) := by decide +kernel
theorem dX6_indexRuns_25 : decode cX6_indexRuns 25 = .ok (.getfield 9, 3) := by decide +kernel
theorem dX6_indexRuns_28 : decode cX6_indexRuns 28 = .ok (.getfield 52, 3) := by decide +kernel
theorem dX6_indexRuns_31 : decode cX6_indexRuns 31 = .ok (.iload_n 2, 1) := by decide +kernel
theorem dX6_indexRuns_32 : decode cX6_indexRuns 32 = .ok (.iconst 1, 1) := by decide +kernel
theorem dX6_indexRuns_33 : decode cX6_indexRuns 33 = .ok (.isub, 1) := by decide +kernel
theorem dX6_indexRuns_34 : decode cX6_indexRuns 34 = .ok (.iaload, 1) := by decide +kernel
theorem dX6_indexRuns_35 : decode cX6_indexRuns 35 = .ok (.if_icmp .eq 6, 3) := by decide +kernel
theorem dX6_indexRuns_38 : decode cX6_indexRuns 38 = .ok (.iinc 1 1, 3) := by decide +kernel
theorem dX6_indexRuns_41 : decode cX6_indexRuns 41 = .ok (.iinc 2 1, 3) := by decide +kernel
theorem dX6_indexRuns_44 : decode cX6_indexRuns 44 = .ok (.goto (-40), 3) := by decide +kernel
theorem dX6_indexRuns_47 : decode cX6_indexRuns 47 = .ok (.iload_n 1, 1) := by decide +kernel
theorem dX6_indexRuns_48 : decode cX6_indexRuns 48 = .ok (.ireturn, 1) := by decide +kernel
theorem dX6_bitsPerIndex_0 : decode cX6_bitsPerIndex 0 = .ok (.iconst 0, 1) := by decide +kernel
theorem dX6_bitsPerIndex_1 : decode cX6_bitsPerIndex 1 = .ok (.istore_n 1, 1) := by decide +kernel
theorem dX6_bitsPerIndex_2 : decode cX6_bitsPerIndex 2 = .ok (.iconst 0, 1) := by decide +kernel
theorem dX6_bitsPerIndex_3 : decode cX6_bitsPerIndex 3 = .ok (.istore_n 2, 1) := by decide +kernel
theorem dX6_bitsPerIndex_4 : decode cX6_bitsPerIndex 4 = .ok (.iload_n 2, 1) := by decide +kernel
theorem dX6_bitsPerIndex_5 : decode cX6_bitsPerIndex 5 = .ok (.aload_n 0, 1) := by decide +kernel
theorem dX6_bitsPerIndex_6 : decode cX6_bitsPerIndex 6 = .ok (.getfield 9, 3) := by decide +kernel
theorem dX6_bitsPerIndex_9 : decode cX6_bitsPerIndex 9 = .ok (.invokevirtual 15, 3) := by decide +kernel
theorem dX6_bitsPerIndex_12 : decode cX6_bitsPerIndex 12 = .ok (.if_icmp .ge 23, 3) := by decide +kernel
theorem dX6_bitsPerIndex_15 : decode cX6_bitsPerIndex 15 = .ok (.iload_n 1, 1) := by decide +kernel
theorem dX6_bitsPerIndex_16 : decode cX6_bitsPerIndex 16 = .ok (.aload_n 0, 1) := by decide +kernel
theorem dX6_bitsPerIndex_17 : decode cX6_bitsPerIndex 17 = .ok (.getfield 9, 3) := by decide +kernel
theorem dX6_bitsPerIndex_20 : decode cX6_bitsPerIndex 20 = .ok (.getfield 52, 3) := by decide +kernel
theorem dX6_bitsPerIndex_23 : decode cX6_bitsPerIndex 23 = .ok (.iload_n 2, 1) := by decide +kernel
theorem dX6_bitsPerIndex_24 : decode cX6_bitsPerIndex 24 = .ok (.iaload, 1) := by decide +kernel
theorem dX6_bitsPerIndex_25 : decode cX6_bitsPerIndex 25 = .ok (.invokestatic 56, 3) := by decide +kernel
theorem dX6_bitsPerIndex_28 : decode cX6_bitsPerIndex 28 = .ok (.istore_n 1, 1) := by decide +kernel
theorem dX6_bitsPerIndex_29 : decode cX6_bitsPerIndex 29 = .ok (.iinc 2 1, 3) := by decide +kernel
theorem dX6_bitsPerIndex_32 : decode cX6_bitsPerIndex 32 = .ok (.goto (-28), 3) := by decide +kernel
theorem dX6_bitsPerIndex_35 : decode cX6_bitsPerIndex 35 = .ok (.iload_n 1, 1) := by decide +kernel
theorem dX6_bitsPerIndex_36 : decode cX6_bitsPerIndex 36 = .ok (.iconst 2, 1) := by decide +kernel
theorem dX6_bitsPerIndex_37 : decode cX6_bitsPerIndex 37 = .ok (.if_icmp .ge 5, 3) := by decide +kernel
theorem dX6_bitsPerIndex_40 : decode cX6_bitsPerIndex 40 = .ok (.iconst 1, 1) := by decide +kernel
theorem dX6_bitsPerIndex_41 : decode cX6_bitsPerIndex 41 = .ok (.ireturn, 1) := by decide +kernel
theorem dX6_bitsPerIndex_42 : decode cX6_bitsPerIndex 42 = .ok (.iload_n 1, 1) := by decide +kernel
theorem dX6_bitsPerIndex_43 : decode cX6_bitsPerIndex 43 = .ok (.iconst 4, 1) := by decide +kernel
theorem dX6_bitsPerIndex_44 : decode cX6_bitsPerIndex 44 = .ok (.if_icmp .ge 5, 3) := by decide +kernel
theorem dX6_bitsPerIndex_47 : decode cX6_bitsPerIndex 47 = .ok (.iconst 2, 1) := by decide +kernel
theorem dX6_bitsPerIndex_48 : decode cX6_bitsPerIndex 48 = .ok (.ireturn, 1) := by decide +kernel
theorem dX6_bitsPerIndex_49 : decode cX6_bitsPerIndex 49 = .ok (.iload_n 1, 1) := by decide +kernel
theorem dX6_bitsPerIndex_50 : decode cX6_bitsPerIndex 50 = .ok (.bipush 16, 2) := by decide +kernel
theorem dX6_bitsPerIndex_52 : decode cX6_bitsPerIndex 52 = .ok (.if_icmp .ge 7, 3) := by decide +kernel
theorem dX6_bitsPerIndex_55 : decode cX6_bitsPerIndex 55 = .ok (.iconst 4, 1) := by decide +kernel
theorem dX6_bitsPerIndex_56 : decode cX6_bitsPerIndex 56 = .ok (.goto 5, 3) := by decide +kernel
theorem dX6_bitsPerIndex_59 : decode cX6_bitsPerIndex 59 = .ok (.bipush 8, 2) := by decide +kernel
theorem dX6_bitsPerIndex_61 : decode cX6_bitsPerIndex 61 = .ok (.ireturn, 1) := by decide +kernel
theorem dX6_bytesPerRow_0 : decode cX6_bytesPerRow 0 = .ok (.aload_n 0, 1) := by decide +kernel
theorem dX6_bytesPerRow_1 : decode cX6_bytesPerRow 1 = .ok (.getfield 9, 3) := by decide +kernel
theorem dX6_bytesPerRow_4 : decode cX6_bytesPerRow 4 = .ok (.getfield 33, 3) := by decide +kernel
theorem dX6_bytesPerRow_7 : decode cX6_bytesPerRow 7 = .ok (.iload_n 1, 1) := by decide +kernel
theorem dX6_bytesPerRow_8 : decode cX6_bytesPerRow 8 = .ok (.imul, 1) := by decide +kernel
theorem dX6_bytesPerRow_9 : decode cX6_bytesPerRow 9 = .ok (.bipush 7, 2) := by decide +kernel
theorem dX6_bytesPerRow_11 : decode cX6_bytesPerRow 11 = .ok (.iadd, 1) := by decide +kernel
theorem dX6_bytesPerRow_12 : decode cX6_bytesPerRow 12 = .ok (.bipush 8, 2) := by decide +kernel
theorem dX6_bytesPerRow_14 : decode cX6_bytesPerRow 14 = .ok (.idiv, 1) := by decide +kernel
theorem dX6_bytesPerRow_15 : decode cX6_bytesPerRow 15 = .ok (.ireturn, 1) := by decide +kernel
theorem dX6_packedBytes_0 : decode cX6_packedBytes 0 = .ok (.aload_n 0, 1) := by decide +kernel
theorem dX6_packedBytes_1 : decode cX6_packedBytes 1 = .ok (.aload_n 0, 1) := by decide +kernel
theorem dX6_packedBytes_2 : decode cX6_packedBytes 2 = .ok (.invokevirtual 61, 3) := by decide +kernel
theorem dX6_packedBytes_5 : decode cX6_packedBytes 5 = .ok (.invokevirtual 64, 3) := by decide +kernel
theorem dX6_packedBytes_8 : decode cX6_packedBytes 8 = .ok (.aload_n 0, 1) := by decide +kernel
theorem dX6_packedBytes_9 : decode cX6_packedBytes 9 = .ok (.getfield 9, 3) := by decide +kernel
theorem dX6_packedBytes_12 : decode cX6_packedBytes 12 = .ok (.getfield 29, 3) := by decide +kernel
theorem dX6_packedBytes_15 : decode cX6_packedBytes 15 = .ok (.imul, 1) := by decide +kernel
theorem dX6_packedBytes_16 : decode cX6_packedBytes 16 = .ok (.ireturn, 1) := by decide +kernel
theorem dX6_packedByte_0 : decode cX6_packedByte 0 = .ok (.aload_n 0, 1) := by decide +kernel
theorem dX6_packedByte_1 : decode cX6_packedByte 1 = .ok (.invokevirtual 61, 3) := by decide +kernel
theorem dX6_packedByte_4 : decode cX6_packedByte 4 = .ok (.istore_n 2, 1) := by decide +kernel
theorem dX6_packedByte_5 : decode cX6_packedByte 5 = .ok (.aload_n 0, 1) := by decide +kernel
theorem dX6_packedByte_6 : decode cX6_packedByte 6 = .ok (.iload_n 2, 1) := by decide +kernel
theorem dX6_packedByte_7 : decode cX6_packedByte 7 = .ok (.invokevirtual 64, 3) := by decide +kernel
theorem dX6_packedByte_10 : decode cX6_packedByte 10 = .ok (.istore_n 3, 1) := by decide +kernel
theorem dX6_packedByte_11 : decode cX6_packedByte 11 = .ok (.iload_n 1, 1) := by decide +kernel
theorem dX6_packedByte_12 : decode cX6_packedByte 12 = .ok (.ifCond .lt 24, 3) := by decide +kernel
theorem dX6_packedByte_15 : decode cX6_packedByte 15 = .ok (.iload_n 2, 1) := by decide +kernel
theorem dX6_packedByte_16 : decode cX6_packedByte 16 = .ok (.ifCond .le 20, 3) := by decide +kernel
theorem dX6_packedByte_19 : decode cX6_packedByte 19 = .ok (.iload_n 3, 1) := by decide +kernel
theorem dX6_packedByte_20 : decode cX6_packedByte 20 = .ok (.ifCond .le 16, 3) := by decide +kernel
theorem dX6_packedByte_23 : decode cX6_packedByte 23 = .ok (.iload_n 1, 1) := by decide +kernel
theorem dX6_packedByte_24 : decode cX6_packedByte 24 = .ok (.iload_n 3, 1) := by decide +kernel
theorem dX6_packedByte_25 : decode cX6_packedByte 25 = .ok (.aload_n 0, 1) := by decide +kernel
theorem dX6_packedByte_26 : decode cX6_packedByte 26 = .ok (.getfield 9, 3) := by decide +kernel
theorem dX6_packedByte_29 : decode cX6_packedByte 29 = .ok (.getfield 29, 3) := by decide +kernel
theorem dX6_packedByte_32 : decode cX6_packedByte 32 = .ok (.imul, 1) := by decide +kernel
theorem dX6_packedByte_33 : decode cX6_packedByte 33 = .ok (.if_icmp .lt 5, 3) := by decide +kernel
theorem dX6_packedByte_36 : decode cX6_packedByte 36 = .ok (.iconst (-1), 1) := by decide +kernel
theorem dX6_packedByte_37 : decode cX6_packedByte 37 = .ok (.ireturn, 1) := by decide +kernel
theorem dX6_packedByte_38 : decode cX6_packedByte 38 = .ok (.iload_n 1, 1) := by decide +kernel
theorem dX6_packedByte_39 : decode cX6_packedByte 39 = .ok (.iload_n 3, 1) := by decide +kernel
theorem dX6_packedByte_40 : decode cX6_packedByte 40 = .ok (.idiv, 1) := by decide +kernel
theorem dX6_packedByte_41 : decode cX6_packedByte 41 = .ok (.istore 4, 2) := by decide +kernel
theorem dX6_packedByte_43 : decode cX6_packedByte 43 = .ok (.iload_n 1, 1) := by decide +kernel
theorem dX6_packedByte_44 : decode cX6_packedByte 44 = .ok (.iload_n 3, 1) := by decide +kernel
theorem dX6_packedByte_45 : decode cX6_packedByte 45 = .ok (.irem, 1) := by decide +kernel
theorem dX6_packedByte_46 : decode cX6_packedByte 46 = .ok (.bipush 8, 2) := by decide +kernel
theorem dX6_packedByte_48 : decode cX6_packedByte 48 = .ok (.imul, 1) := by decide +kernel
theorem dX6_packedByte_49 : decode cX6_packedByte 49 = .ok (.iload_n 2, 1) := by decide +kernel
theorem dX6_packedByte_50 : decode cX6_packedByte 50 = .ok (.idiv, 1) := by decide +kernel
theorem dX6_packedByte_51 : decode cX6_packedByte 51 = .ok (.istore 5, 2) := by decide +kernel
theorem dX6_packedByte_53 : decode cX6_packedByte 53 = .ok (.iconst 0, 1) := by decide +kernel
theorem dX6_packedByte_54 : decode cX6_packedByte 54 = .ok (.istore 6, 2) := by decide +kernel
theorem dX6_packedByte_56 : decode cX6_packedByte 56 = .ok (.iconst 0, 1) := by decide +kernel
theorem dX6_packedByte_57 : decode cX6_packedByte 57 = .ok (.istore 7, 2) := by decide +kernel
theorem dX6_packedByte_59 : decode cX6_packedByte 59 = .ok (.iload 7, 2) := by decide +kernel
theorem dX6_packedByte_61 : decode cX6_packedByte 61 = .ok (.bipush 8, 2) := by decide +kernel
theorem dX6_packedByte_63 : decode cX6_packedByte 63 = .ok (.iload_n 2, 1) := by decide +kernel
theorem dX6_packedByte_64 : decode cX6_packedByte 64 = .ok (.idiv, 1) := by decide +kernel
theorem dX6_packedByte_65 : decode cX6_packedByte 65 = .ok (.if_icmp .ge 64, 3) := by decide +kernel
theorem dX6_packedByte_68 : decode cX6_packedByte 68 = .ok (.iload 5, 2) := by decide +kernel
theorem dX6_packedByte_70 : decode cX6_packedByte 70 = .ok (.iload 7, 2) := by decide +kernel
theorem dX6_packedByte_72 : decode cX6_packedByte 72 = .ok (.iadd, 1) := by decide +kernel
theorem dX6_packedByte_73 : decode cX6_packedByte 73 = .ok (.istore 8, 2) := by decide +kernel
theorem dX6_packedByte_75 : decode cX6_packedByte 75 = .ok (.aload_n 0, 1) := by decide +kernel
theorem dX6_packedByte_76 : decode cX6_packedByte 76 = .ok (.getfield 9, 3) := by decide +kernel
theorem dX6_packedByte_79 : decode cX6_packedByte 79 = .ok (.iload 8, 2) := by decide +kernel
theorem dX6_packedByte_81 : decode cX6_packedByte 81 = .ok (.iload 4, 2) := by decide +kernel
theorem dX6_packedByte_83 : decode cX6_packedByte 83 = .ok (.invokevirtual 67, 3) := by decide +kernel
theorem dX6_packedByte_86 : decode cX6_packedByte 86 = .ok (.ifCond .eq 25, 3) := by decide +kernel
theorem dX6_packedByte_89 : decode cX6_packedByte 89 = .ok (.aload_n 0, 1) := by decide +kernel
theorem dX6_packedByte_90 : decode cX6_packedByte 90 = .ok (.getfield 9, 3) := by decide +kernel
theorem dX6_packedByte_93 : decode cX6_packedByte 93 = .ok (.getfield 52, 3) := by decide +kernel
theorem dX6_packedByte_96 : decode cX6_packedByte 96 = .ok (.aload_n 0, 1) := by decide +kernel
theorem dX6_packedByte_97 : decode cX6_packedByte 97 = .ok (.getfield 9, 3) := by decide +kernel
theorem dX6_packedByte_100 : decode cX6_packedByte 100 = .ok (.iload 8, 2) := by decide +kernel
theorem dX6_packedByte_102 : decode cX6_packedByte 102 = .ok (.iload 4, 2) := by decide +kernel
theorem dX6_packedByte_104 : decode cX6_packedByte 104 = .ok (.invokevirtual 36, 3) := by decide +kernel
theorem dX6_packedByte_107 : decode cX6_packedByte 107 = .ok (.iaload, 1) := by decide +kernel
theorem dX6_packedByte_108 : decode cX6_packedByte 108 = .ok (.goto 4, 3) := by decide +kernel
theorem dX6_packedByte_111 : decode cX6_packedByte 111 = .ok (.iconst 0, 1) := by decide +kernel
theorem dX6_packedByte_112 : decode cX6_packedByte 112 = .ok (.istore 9, 2) := by decide +kernel
theorem dX6_packedByte_114 : decode cX6_packedByte 114 = .ok (.iload 6, 2) := by decide +kernel
theorem dX6_packedByte_116 : decode cX6_packedByte 116 = .ok (.iload_n 2, 1) := by decide +kernel
theorem dX6_packedByte_117 : decode cX6_packedByte 117 = .ok (.ishl, 1) := by decide +kernel
theorem dX6_packedByte_118 : decode cX6_packedByte 118 = .ok (.iload 9, 2) := by decide +kernel
theorem dX6_packedByte_120 : decode cX6_packedByte 120 = .ok (.iadd, 1) := by decide +kernel
theorem dX6_packedByte_121 : decode cX6_packedByte 121 = .ok (.istore 6, 2) := by decide +kernel
theorem dX6_packedByte_123 : decode cX6_packedByte 123 = .ok (.iinc 7 1, 3) := by decide +kernel
theorem dX6_packedByte_126 : decode cX6_packedByte 126 = .ok (.goto (-67), 3) := by decide +kernel
theorem dX6_packedByte_129 : decode cX6_packedByte 129 = .ok (.iload 6, 2) := by decide +kernel
theorem dX6_packedByte_131 : decode cX6_packedByte 131 = .ok (.ireturn, 1) := by decide +kernel
theorem dX7_init_0 : decode cX7_init 0 = .ok (.aload_n 0, 1) := by decide +kernel
theorem dX7_init_1 : decode cX7_init 1 = .ok (.invokespecial 3, 3) := by decide +kernel
theorem dX7_init_4 : decode cX7_init 4 = .ok (.aload_n 0, 1) := by decide +kernel
theorem dX7_init_5 : decode cX7_init 5 = .ok (.iconst 1, 1) := by decide +kernel
theorem dX7_init_6 : decode cX7_init 6 = .ok (.putfield 9, 3) := by decide +kernel
theorem dX7_init_9 : decode cX7_init 9 = .ok (.aload_n 0, 1) := by decide +kernel
theorem dX7_init_10 : decode cX7_init 10 = .ok (.iconst 1, 1) := by decide +kernel
theorem dX7_init_11 : decode cX7_init 11 = .ok (.putfield 15, 3) := by decide +kernel
theorem dX7_init_14 : decode cX7_init 14 = .ok (.aload_n 0, 1) := by decide +kernel
theorem dX7_init_15 : decode cX7_init 15 = .ok (.sipush 256, 3) := by decide +kernel
theorem dX7_init_18 : decode cX7_init 18 = .ok (.newarray .int, 2) := by decide +kernel
theorem dX7_init_20 : decode cX7_init 20 = .ok (.putfield 18, 3) := by decide +kernel
theorem dX7_init_23 : decode cX7_init 23 = .ok (.aload_n 0, 1) := by decide +kernel
theorem dX7_init_24 : decode cX7_init 24 = .ok (.iconst 0, 1) := by decide +kernel
theorem dX7_init_25 : decode cX7_init 25 = .ok (.putfield 22, 3) := by decide +kernel
theorem dX7_init_28 : decode cX7_init 28 = .ok (.aload_n 0, 1) := by decide +kernel
theorem dX7_init_29 : decode cX7_init 29 = .ok (.bipush 16, 2) := by decide +kernel
theorem dX7_init_31 : decode cX7_init 31 = .ok (.newarray .int, 2) := by decide +kernel
theorem dX7_init_33 : decode cX7_init 33 = .ok (.putfield 25, 3) := by decide +kernel
theorem dX7_init_36 : decode cX7_init 36 = .ok (.aload_n 0, 1) := by decide +kernel
theorem dX7_init_37 : decode cX7_init 37 = .ok (.bipush 16, 2) := by decide +kernel
theorem dX7_init_39 : decode cX7_init 39 = .ok (.newarray .boolean, 2) := by decide +kernel
theorem dX7_init_41 : decode cX7_init 41 = .ok (.putfield 28, 3) := by decide +kernel
theorem dX7_init_44 : decode cX7_init 44 = .ok (.aload_n 0, 1) := by decide +kernel
theorem dX7_init_45 : decode cX7_init 45 = .ok (.iconst 0, 1) := by decide +kernel
theorem dX7_init_46 : decode cX7_init 46 = .ok (.putfield 32, 3) := by decide +kernel
theorem dX7_init_49 : decode cX7_init 49 = .ok (.aload_n 0, 1) := by decide +kernel
theorem dX7_init_50 : decode cX7_init 50 = .ok (.iconst 0, 1) := by decide +kernel
theorem dX7_init_51 : decode cX7_init 51 = .ok (.putfield 35, 3) := by decide +kernel
theorem dX7_init_54 : decode cX7_init 54 = .ok (.aload_n 0, 1) := by decide +kernel
theorem dX7_init_55 : decode cX7_init 55 = .ok (.sipush 256, 3) := by decide +kernel
theorem dX7_init_58 : decode cX7_init 58 = .ok (.newarray .int, 2) := by decide +kernel
theorem dX7_init_60 : decode cX7_init 60 = .ok (.putfield 39, 3) := by decide +kernel
theorem dX7_init_63 : decode cX7_init 63 = .ok (.return_, 1) := by decide +kernel
theorem dX7_copyFrom_0 : decode cX7_copyFrom 0 = .ok (.aload_n 0, 1) := by decide +kernel
theorem dX7_copyFrom_1 : decode cX7_copyFrom 1 = .ok (.aload_n 1, 1) := by decide +kernel
theorem dX7_copyFrom_2 : decode cX7_copyFrom 2 = .ok (.getfield 9, 3) := by decide +kernel
theorem dX7_copyFrom_5 : decode cX7_copyFrom 5 = .ok (.putfield 9, 3) := by decide +kernel
theorem dX7_copyFrom_8 : decode cX7_copyFrom 8 = .ok (.aload_n 0, 1) := by decide +kernel
theorem dX7_copyFrom_9 : decode cX7_copyFrom 9 = .ok (.aload_n 1, 1) := by decide +kernel
theorem dX7_copyFrom_10 : decode cX7_copyFrom 10 = .ok (.getfield 15, 3) := by decide +kernel
theorem dX7_copyFrom_13 : decode cX7_copyFrom 13 = .ok (.putfield 15, 3) := by decide +kernel
theorem dX7_copyFrom_16 : decode cX7_copyFrom 16 = .ok (.aload_n 0, 1) := by decide +kernel
theorem dX7_copyFrom_17 : decode cX7_copyFrom 17 = .ok (.aload_n 1, 1) := by decide +kernel
theorem dX7_copyFrom_18 : decode cX7_copyFrom 18 = .ok (.getfield 22, 3) := by decide +kernel
theorem dX7_copyFrom_21 : decode cX7_copyFrom 21 = .ok (.putfield 22, 3) := by decide +kernel
theorem dX7_copyFrom_24 : decode cX7_copyFrom 24 = .ok (.aload_n 0, 1) := by decide +kernel
theorem dX7_copyFrom_25 : decode cX7_copyFrom 25 = .ok (.aload_n 1, 1) := by decide +kernel
theorem dX7_copyFrom_26 : decode cX7_copyFrom 26 = .ok (.getfield 32, 3) := by decide +kernel
theorem dX7_copyFrom_29 : decode cX7_copyFrom 29 = .ok (.putfield 32, 3) := by decide +kernel
theorem dX7_copyFrom_32 : decode cX7_copyFrom 32 = .ok (.aload_n 0, 1) := by decide +kernel
theorem dX7_copyFrom_33 : decode cX7_copyFrom 33 = .ok (.aload_n 1, 1) := by decide +kernel
theorem dX7_copyFrom_34 : decode cX7_copyFrom 34 = .ok (.getfield 35, 3) := by decide +kernel
theorem dX7_copyFrom_37 : decode cX7_copyFrom 37 = .ok (.putfield 35, 3) := by decide +kernel
theorem dX7_copyFrom_40 : decode cX7_copyFrom 40 = .ok (.aload_n 1, 1) := by decide +kernel
theorem dX7_copyFrom_41 : decode cX7_copyFrom 41 = .ok (.getfield 18, 3) := by decide +kernel
theorem dX7_copyFrom_44 : decode cX7_copyFrom 44 = .ok (.iconst 0, 1) := by decide +kernel
theorem dX7_copyFrom_45 : decode cX7_copyFrom 45 = .ok (.aload_n 0, 1) := by decide +kernel
theorem dX7_copyFrom_46 : decode cX7_copyFrom 46 = .ok (.getfield 18, 3) := by decide +kernel
theorem dX7_copyFrom_49 : decode cX7_copyFrom 49 = .ok (.iconst 0, 1) := by decide +kernel
theorem dX7_copyFrom_50 : decode cX7_copyFrom 50 = .ok (.sipush 256, 3) := by decide +kernel
theorem dX7_copyFrom_53 : decode cX7_copyFrom 53 = .ok (.invokestatic 42, 3) := by decide +kernel
theorem dX7_copyFrom_56 : decode cX7_copyFrom 56 = .ok (.aload_n 1, 1) := by decide +kernel
theorem dX7_copyFrom_57 : decode cX7_copyFrom 57 = .ok (.getfield 39, 3) := by decide +kernel
theorem dX7_copyFrom_60 : decode cX7_copyFrom 60 = .ok (.iconst 0, 1) := by decide +kernel
theorem dX7_copyFrom_61 : decode cX7_copyFrom 61 = .ok (.aload_n 0, 1) := by decide +kernel
theorem dX7_copyFrom_62 : decode cX7_copyFrom 62 = .ok (.getfield 39, 3) := by decide +kernel
theorem dX7_copyFrom_65 : decode cX7_copyFrom 65 = .ok (.iconst 0, 1) := by decide +kernel
theorem dX7_copyFrom_66 : decode cX7_copyFrom 66 = .ok (.sipush 256, 3) := by decide +kernel
theorem dX7_copyFrom_69 : decode cX7_copyFrom 69 = .ok (.invokestatic 42, 3) := by decide +kernel
theorem dX7_copyFrom_72 : decode cX7_copyFrom 72 = .ok (.aload_n 1, 1) := by decide +kernel
theorem dX7_copyFrom_73 : decode cX7_copyFrom 73 = .ok (.getfield 25, 3) := by decide +kernel
theorem dX7_copyFrom_76 : decode cX7_copyFrom 76 = .ok (.iconst 0, 1) := by decide +kernel
theorem dX7_copyFrom_77 : decode cX7_copyFrom 77 = .ok (.aload_n 0, 1) := by decide +kernel
theorem dX7_copyFrom_78 : decode cX7_copyFrom 78 = .ok (.getfield 25, 3) := by decide +kernel
theorem dX7_copyFrom_81 : decode cX7_copyFrom 81 = .ok (.iconst 0, 1) := by decide +kernel
theorem dX7_copyFrom_82 : decode cX7_copyFrom 82 = .ok (.bipush 16, 2) := by decide +kernel
theorem dX7_copyFrom_84 : decode cX7_copyFrom 84 = .ok (.invokestatic 42, 3) := by decide +kernel
theorem dX7_copyFrom_87 : decode cX7_copyFrom 87 = .ok (.iconst 0, 1) := by decide +kernel
theorem dX7_copyFrom_88 : decode cX7_copyFrom 88 = .ok (.istore_n 2, 1) := by decide +kernel
theorem dX7_copyFrom_89 : decode cX7_copyFrom 89 = .ok (.iload_n 2, 1) := by decide +kernel
theorem dX7_copyFrom_90 : decode cX7_copyFrom 90 = .ok (.bipush 16, 2) := by decide +kernel
theorem dX7_copyFrom_92 : decode cX7_copyFrom 92 = .ok (.if_icmp .ge 21, 3) := by decide +kernel
theorem dX7_copyFrom_95 : decode cX7_copyFrom 95 = .ok (.aload_n 0, 1) := by decide +kernel
theorem dX7_copyFrom_96 : decode cX7_copyFrom 96 = .ok (.getfield 28, 3) := by decide +kernel
theorem dX7_copyFrom_99 : decode cX7_copyFrom 99 = .ok (.iload_n 2, 1) := by decide +kernel
theorem dX7_copyFrom_100 : decode cX7_copyFrom 100 = .ok (.aload_n 1, 1) := by decide +kernel
theorem dX7_copyFrom_101 : decode cX7_copyFrom 101 = .ok (.getfield 28, 3) := by decide +kernel
theorem dX7_copyFrom_104 : decode cX7_copyFrom 104 = .ok (.iload_n 2, 1) := by decide +kernel
theorem dX7_copyFrom_105 : decode cX7_copyFrom 105 = .ok (.baload, 1) := by decide +kernel
theorem dX7_copyFrom_106 : decode cX7_copyFrom 106 = .ok (.bastore, 1) := by decide +kernel
theorem dX7_copyFrom_107 : decode cX7_copyFrom 107 = .ok (.iinc 2 1, 3) := by decide +kernel
theorem dX7_copyFrom_110 : decode cX7_copyFrom 110 = .ok (.goto (-21), 3) := by decide +kernel
theorem dX7_copyFrom_113 : decode cX7_copyFrom 113 = .ok (.return_, 1) := by decide +kernel
theorem dX7_area_0 : decode cX7_area 0 = .ok (.aload_n 0, 1) := by decide +kernel
theorem dX7_area_1 : decode cX7_area 1 = .ok (.getfield 9, 3) := by decide +kernel
theorem dX7_area_4 : decode cX7_area 4 = .ok (.aload_n 0, 1) := by decide +kernel
theorem dX7_area_5 : decode cX7_area 5 = .ok (.getfield 15, 3) := by decide +kernel
theorem dX7_area_8 : decode cX7_area 8 = .ok (.imul, 1) := by decide +kernel
theorem dX7_area_9 : decode cX7_area 9 = .ok (.ireturn, 1) := by decide +kernel
theorem dX7_contains_0 : decode cX7_contains 0 = .ok (.iload_n 1, 1) := by decide +kernel
theorem dX7_contains_1 : decode cX7_contains 1 = .ok (.ifCond .lt 27, 3) := by decide +kernel
theorem dX7_contains_4 : decode cX7_contains 4 = .ok (.iload_n 1, 1) := by decide +kernel
theorem dX7_contains_5 : decode cX7_contains 5 = .ok (.aload_n 0, 1) := by decide +kernel
theorem dX7_contains_6 : decode cX7_contains 6 = .ok (.getfield 9, 3) := by decide +kernel
theorem dX7_contains_9 : decode cX7_contains 9 = .ok (.if_icmp .ge 19, 3) := by decide +kernel
theorem dX7_contains_12 : decode cX7_contains 12 = .ok (.iload_n 2, 1) := by decide +kernel
theorem dX7_contains_13 : decode cX7_contains 13 = .ok (.ifCond .lt 15, 3) := by decide +kernel
theorem dX7_contains_16 : decode cX7_contains 16 = .ok (.iload_n 2, 1) := by decide +kernel
theorem dX7_contains_17 : decode cX7_contains 17 = .ok (.aload_n 0, 1) := by decide +kernel
theorem dX7_contains_18 : decode cX7_contains 18 = .ok (.getfield 15, 3) := by decide +kernel
theorem dX7_contains_21 : decode cX7_contains 21 = .ok (.if_icmp .ge 7, 3) := by decide +kernel
theorem dX7_contains_24 : decode cX7_contains 24 = .ok (.iconst 1, 1) := by decide +kernel
theorem dX7_contains_25 : decode cX7_contains 25 = .ok (.goto 4, 3) := by decide +kernel
theorem dX7_contains_28 : decode cX7_contains 28 = .ok (.iconst 0, 1) := by decide +kernel
theorem dX7_contains_29 : decode cX7_contains 29 = .ok (.ireturn, 1) := by decide +kernel
theorem dX7_place_0 : decode cX7_place 0 = .ok (.iload_n 2, 1) := by decide +kernel
theorem dX7_place_1 : decode cX7_place 1 = .ok (.aload_n 0, 1) := by decide +kernel
theorem dX7_place_2 : decode cX7_place 2 = .ok (.getfield 9, 3) := by decide +kernel
theorem dX7_place_5 : decode cX7_place 5 = .ok (.imul, 1) := by decide +kernel
theorem dX7_place_6 : decode cX7_place 6 = .ok (.iload_n 1, 1) := by decide +kernel
theorem dX7_place_7 : decode cX7_place 7 = .ok (.iadd, 1) := by decide +kernel
theorem dX7_place_8 : decode cX7_place 8 = .ok (.ireturn, 1) := by decide +kernel
theorem dX7_isOpaque_0 : decode cX7_isOpaque 0 = .ok (.aload_n 0, 1) := by decide +kernel
theorem dX7_isOpaque_1 : decode cX7_isOpaque 1 = .ok (.getfield 18, 3) := by decide +kernel
theorem dX7_isOpaque_4 : decode cX7_isOpaque 4 = .ok (.iload_n 1, 1) := by decide +kernel
theorem dX7_isOpaque_5 : decode cX7_isOpaque 5 = .ok (.iaload, 1) := by decide +kernel
theorem dX7_isOpaque_6 : decode cX7_isOpaque 6 = .ok (.iconst (-1), 1) := by decide +kernel
theorem dX7_isOpaque_7 : decode cX7_isOpaque 7 = .ok (.if_icmp .eq 7, 3) := by decide +kernel
theorem dX7_isOpaque_10 : decode cX7_isOpaque 10 = .ok (.iconst 1, 1) := by decide +kernel
theorem dX7_isOpaque_11 : decode cX7_isOpaque 11 = .ok (.goto 4, 3) := by decide +kernel
theorem dX7_isOpaque_14 : decode cX7_isOpaque 14 = .ok (.iconst 0, 1) := by decide +kernel
theorem dX7_isOpaque_15 : decode cX7_isOpaque 15 = .ok (.ireturn, 1) := by decide +kernel
theorem dX7_opaquePixels_0 : decode cX7_opaquePixels 0 = .ok (.iconst 0, 1) := by decide +kernel
theorem dX7_opaquePixels_1 : decode cX7_opaquePixels 1 = .ok (.istore_n 1, 1) := by decide +kernel
theorem dX7_opaquePixels_2 : decode cX7_opaquePixels 2 = .ok (.iconst 0, 1) := by decide +kernel
theorem dX7_opaquePixels_3 : decode cX7_opaquePixels 3 = .ok (.istore_n 2, 1) := by decide +kernel
theorem dX7_opaquePixels_4 : decode cX7_opaquePixels 4 = .ok (.iload_n 2, 1) := by decide +kernel
theorem dX7_opaquePixels_5 : decode cX7_opaquePixels 5 = .ok (.aload_n 0, 1) := by decide +kernel
theorem dX7_opaquePixels_6 : decode cX7_opaquePixels 6 = .ok (.invokevirtual 48, 3) := by decide +kernel
theorem dX7_opaquePixels_9 : decode cX7_opaquePixels 9 = .ok (.if_icmp .ge 20, 3) := by decide +kernel
theorem dX7_opaquePixels_12 : decode cX7_opaquePixels 12 = .ok (.aload_n 0, 1) := by decide +kernel
theorem dX7_opaquePixels_13 : decode cX7_opaquePixels 13 = .ok (.iload_n 2, 1) := by decide +kernel
theorem dX7_opaquePixels_14 : decode cX7_opaquePixels 14 = .ok (.invokevirtual 52, 3) := by decide +kernel
theorem dX7_opaquePixels_17 : decode cX7_opaquePixels 17 = .ok (.ifCond .eq 6, 3) := by decide +kernel
theorem dX7_opaquePixels_20 : decode cX7_opaquePixels 20 = .ok (.iinc 1 1, 3) := by decide +kernel
theorem dX7_opaquePixels_23 : decode cX7_opaquePixels 23 = .ok (.iinc 2 1, 3) := by decide +kernel
theorem dX7_opaquePixels_26 : decode cX7_opaquePixels 26 = .ok (.goto (-22), 3) := by decide +kernel
theorem dX7_opaquePixels_29 : decode cX7_opaquePixels 29 = .ok (.iload_n 1, 1) := by decide +kernel
theorem dX7_opaquePixels_30 : decode cX7_opaquePixels 30 = .ok (.ireturn, 1) := by decide +kernel
theorem dX7_fillArea_0 : decode cX7_fillArea 0 = .ok (.iload_n 2, 1) := by decide +kernel
theorem dX7_fillArea_1 : decode cX7_fillArea 1 = .ok (.istore 6, 2) := by decide +kernel
theorem dX7_fillArea_3 : decode cX7_fillArea 3 = .ok (.iload 6, 2) := by decide +kernel
theorem dX7_fillArea_5 : decode cX7_fillArea 5 = .ok (.iload_n 2, 1) := by decide +kernel
theorem dX7_fillArea_6 : decode cX7_fillArea 6 = .ok (.iload 4, 2) := by decide +kernel
theorem dX7_fillArea_8 : decode cX7_fillArea 8 = .ok (.iadd, 1) := by decide +kernel
theorem dX7_fillArea_9 : decode cX7_fillArea 9 = .ok (.if_icmp .ge 52, 3) := by decide +kernel
theorem dX7_fillArea_12 : decode cX7_fillArea 12 = .ok (.iload_n 1, 1) := by decide +kernel
theorem dX7_fillArea_13 : decode cX7_fillArea 13 = .ok (.istore 7, 2) := by decide +kernel
theorem dX7_fillArea_15 : decode cX7_fillArea 15 = .ok (.iload 7, 2) := by decide +kernel
theorem dX7_fillArea_17 : decode cX7_fillArea 17 = .ok (.iload_n 1, 1) := by decide +kernel
theorem dX7_fillArea_18 : decode cX7_fillArea 18 = .ok (.iload_n 3, 1) := by decide +kernel
theorem dX7_fillArea_19 : decode cX7_fillArea 19 = .ok (.iadd, 1) := by decide +kernel
theorem dX7_fillArea_20 : decode cX7_fillArea 20 = .ok (.if_icmp .ge 35, 3) := by decide +kernel
theorem dX7_fillArea_23 : decode cX7_fillArea 23 = .ok (.aload_n 0, 1) := by decide +kernel
theorem dX7_fillArea_24 : decode cX7_fillArea 24 = .ok (.iload 7, 2) := by decide +kernel
theorem dX7_fillArea_26 : decode cX7_fillArea 26 = .ok (.iload 6, 2) := by decide +kernel
theorem dX7_fillArea_28 : decode cX7_fillArea 28 = .ok (.invokevirtual 56, 3) := by decide +kernel
theorem dX7_fillArea_31 : decode cX7_fillArea 31 = .ok (.ifCond .eq 18, 3) := by decide +kernel
theorem dX7_fillArea_34 : decode cX7_fillArea 34 = .ok (.aload_n 0, 1) := by decide +kernel
theorem dX7_fillArea_35 : decode cX7_fillArea 35 = .ok (.getfield 18, 3) := by decide +kernel
theorem dX7_fillArea_38 : decode cX7_fillArea 38 = .ok (.aload_n 0, 1) := by decide +kernel
theorem dX7_fillArea_39 : decode cX7_fillArea 39 = .ok (.iload 7, 2) := by decide +kernel
theorem dX7_fillArea_41 : decode cX7_fillArea 41 = .ok (.iload 6, 2) := by decide +kernel
theorem dX7_fillArea_43 : decode cX7_fillArea 43 = .ok (.invokevirtual 60, 3) := by decide +kernel
theorem dX7_fillArea_46 : decode cX7_fillArea 46 = .ok (.iload 5, 2) := by decide +kernel
theorem dX7_fillArea_48 : decode cX7_fillArea 48 = .ok (.iastore, 1) := by decide +kernel
theorem dX7_fillArea_49 : decode cX7_fillArea 49 = .ok (.iinc 7 1, 3) := by decide +kernel
theorem dX7_fillArea_52 : decode cX7_fillArea 52 = .ok (.goto (-37), 3) := by decide +kernel
theorem dX7_fillArea_55 : decode cX7_fillArea 55 = .ok (.iinc 6 1, 3) := by decide +kernel
theorem dX7_fillArea_58 : decode cX7_fillArea 58 = .ok (.goto (-55), 3) := by decide +kernel
theorem dX7_fillArea_61 : decode cX7_fillArea 61 = .ok (.return_, 1) := by decide +kernel
theorem dX7_addNoise_0 : decode cX7_addNoise 0 = .ok (.iconst 2, 1) := by decide +kernel
theorem dX7_addNoise_1 : decode cX7_addNoise 1 = .ok (.iload_n 2, 1) := by decide +kernel
theorem dX7_addNoise_2 : decode cX7_addNoise 2 = .ok (.imul, 1) := by decide +kernel
theorem dX7_addNoise_3 : decode cX7_addNoise 3 = .ok (.iconst 1, 1) := by decide +kernel
theorem dX7_addNoise_4 : decode cX7_addNoise 4 = .ok (.iadd, 1) := by decide +kernel
theorem dX7_addNoise_5 : decode cX7_addNoise 5 = .ok (.istore_n 3, 1) := by decide +kernel
theorem dX7_addNoise_6 : decode cX7_addNoise 6 = .ok (.iload_n 3, 1) := by decide +kernel
theorem dX7_addNoise_7 : decode cX7_addNoise 7 = .ok (.ifCond .gt 4, 3) := by decide +kernel
theorem dX7_addNoise_10 : decode cX7_addNoise 10 = .ok (.return_, 1) := by decide +kernel
theorem dX7_addNoise_11 : decode cX7_addNoise 11 = .ok (.iload_n 1, 1) := by decide +kernel
theorem dX7_addNoise_12 : decode cX7_addNoise 12 = .ok (.i2l, 1) := by decide +kernel
theorem dX7_addNoise_13 : decode cX7_addNoise 13 = .ok (.lstore 4, 2) := by decide +kernel
theorem dX7_addNoise_15 : decode cX7_addNoise 15 = .ok (.iconst 0, 1) := by decide +kernel
theorem dX7_addNoise_16 : decode cX7_addNoise 16 = .ok (.istore 6, 2) := by decide +kernel
theorem dX7_addNoise_18 : decode cX7_addNoise 18 = .ok (.iload 6, 2) := by decide +kernel
theorem dX7_addNoise_20 : decode cX7_addNoise 20 = .ok (.aload_n 0, 1) := by decide +kernel
theorem dX7_addNoise_21 : decode cX7_addNoise 21 = .ok (.invokevirtual 48, 3) := by decide +kernel
theorem dX7_addNoise_24 : decode cX7_addNoise 24 = .ok (.if_icmp .ge 104, 3) := by decide +kernel
theorem dX7_addNoise_27 : decode cX7_addNoise 27 = .ok (.aload_n 0, 1) := by decide +kernel
theorem dX7_addNoise_28 : decode cX7_addNoise 28 = .ok (.iload 6, 2) := by decide +kernel
theorem dX7_addNoise_30 : decode cX7_addNoise 30 = .ok (.invokevirtual 52, 3) := by decide +kernel
theorem dX7_addNoise_33 : decode cX7_addNoise 33 = .ok (.ifCond .ne 6, 3) := by decide +kernel
theorem dX7_addNoise_36 : decode cX7_addNoise 36 = .ok (.goto 86, 3) := by decide +kernel
theorem dX7_addNoise_39 : decode cX7_addNoise 39 = .ok (.iconst 0, 1) := by decide +kernel
theorem dX7_addNoise_40 : decode cX7_addNoise 40 = .ok (.istore 7, 2) := by decide +kernel
theorem dX7_addNoise_42 : decode cX7_addNoise 42 = .ok (.iconst 0, 1) := by decide +kernel
theorem dX7_addNoise_43 : decode cX7_addNoise 43 = .ok (.istore 8, 2) := by decide +kernel
theorem dX7_addNoise_45 : decode cX7_addNoise 45 = .ok (.iload 8, 2) := by decide +kernel
theorem dX7_addNoise_47 : decode cX7_addNoise 47 = .ok (.iconst 3, 1) := by decide +kernel
theorem dX7_addNoise_48 : decode cX7_addNoise 48 = .ok (.if_icmp .ge 65, 3) := by decide +kernel
theorem dX7_addNoise_51 : decode cX7_addNoise 51 = .ok (.ldc2_w 64, 3) := by decide +kernel
theorem dX7_addNoise_54 : decode cX7_addNoise 54 = .ok (.lload 4, 2) := by decide +kernel
theorem dX7_addNoise_56 : decode cX7_addNoise 56 = .ok (.lmul, 1) := by decide +kernel
theorem dX7_addNoise_57 : decode cX7_addNoise 57 = .ok (.ldc2_w 66, 3) := by decide +kernel
theorem dX7_addNoise_60 : decode cX7_addNoise 60 = .ok (.ladd, 1) := by decide +kernel
theorem dX7_addNoise_61 : decode cX7_addNoise 61 = .ok (.ldc2_w 68, 3) := by decide +kernel
theorem dX7_addNoise_64 : decode cX7_addNoise 64 = .ok (.land, 1) := by decide +kernel
theorem dX7_addNoise_65 : decode cX7_addNoise 65 = .ok (.lstore 4, 2) := by decide +kernel
theorem dX7_addNoise_67 : decode cX7_addNoise 67 = .ok (.lload 4, 2) := by decide +kernel
theorem dX7_addNoise_69 : decode cX7_addNoise 69 = .ok (.ldc2_w 70, 3) := by decide +kernel
theorem dX7_addNoise_72 : decode cX7_addNoise 72 = .ok (.ldiv, 1) := by decide +kernel
theorem dX7_addNoise_73 : decode cX7_addNoise 73 = .ok (.l2i, 1) := by decide +kernel
theorem dX7_addNoise_74 : decode cX7_addNoise 74 = .ok (.iload_n 3, 1) := by decide +kernel
theorem dX7_addNoise_75 : decode cX7_addNoise 75 = .ok (.irem, 1) := by decide +kernel
theorem dX7_addNoise_76 : decode cX7_addNoise 76 = .ok (.iload_n 2, 1) := by decide +kernel
theorem dX7_addNoise_77 : decode cX7_addNoise 77 = .ok (.isub, 1) := by decide +kernel
theorem dX7_addNoise_78 : decode cX7_addNoise 78 = .ok (.istore 9, 2) := by decide +kernel
theorem dX7_addNoise_80 : decode cX7_addNoise 80 = .ok (.sipush 256, 3) := by decide +kernel
theorem dX7_addNoise_83 : decode cX7_addNoise 83 = .ok (.iload 7, 2) := by decide +kernel
theorem dX7_addNoise_85 : decode cX7_addNoise 85 = .ok (.imul, 1) := by decide +kernel
theorem dX7_addNoise_86 : decode cX7_addNoise 86 = .ok (.aload_n 0, 1) := by decide +kernel
theorem dX7_addNoise_87 : decode cX7_addNoise 87 = .ok (.getfield 18, 3) := by decide +kernel
theorem dX7_addNoise_90 : decode cX7_addNoise 90 = .ok (.iload 6, 2) := by decide +kernel
theorem dX7_addNoise_92 : decode cX7_addNoise 92 = .ok (.iaload, 1) := by decide +kernel
theorem dX7_addNoise_93 : decode cX7_addNoise 93 = .ok (.iload 8, 2) := by decide +kernel
theorem dX7_addNoise_95 : decode cX7_addNoise 95 = .ok (.invokestatic 72, 3) := by decide +kernel
theorem dX7_addNoise_98 : decode cX7_addNoise 98 = .ok (.iload 9, 2) := by decide +kernel
theorem dX7_addNoise_100 : decode cX7_addNoise 100 = .ok (.iadd, 1) := by decide +kernel
theorem dX7_addNoise_101 : decode cX7_addNoise 101 = .ok (.invokestatic 75, 3) := by decide +kernel
theorem dX7_addNoise_104 : decode cX7_addNoise 104 = .ok (.iadd, 1) := by decide +kernel
theorem dX7_addNoise_105 : decode cX7_addNoise 105 = .ok (.istore 7, 2) := by decide +kernel
theorem dX7_addNoise_107 : decode cX7_addNoise 107 = .ok (.iinc 8 1, 3) := by decide +kernel
theorem dX7_addNoise_110 : decode cX7_addNoise 110 = .ok (.goto (-65), 3) := by decide +kernel
theorem dX7_addNoise_113 : decode cX7_addNoise 113 = .ok (.aload_n 0, 1) := by decide +kernel
theorem dX7_addNoise_114 : decode cX7_addNoise 114 = .ok (.getfield 18, 3) := by decide +kernel
theorem dX7_addNoise_117 : decode cX7_addNoise 117 = .ok (.iload 6, 2) := by decide +kernel
theorem dX7_addNoise_119 : decode cX7_addNoise 119 = .ok (.iload 7, 2) := by decide +kernel
theorem dX7_addNoise_121 : decode cX7_addNoise 121 = .ok (.iastore, 1) := by decide +kernel
theorem dX7_addNoise_122 : decode cX7_addNoise 122 = .ok (.iinc 6 1, 3) := by decide +kernel
theorem dX7_addNoise_125 : decode cX7_addNoise 125 = .ok (.goto (-107), 3) := by decide +kernel
theorem dX7_addNoise_128 : decode cX7_addNoise 128 = .ok (.return_, 1) := by decide +kernel
theorem dX7_hasEntry_0 : decode cX7_hasEntry 0 = .ok (.iload_n 1, 1) := by decide +kernel
theorem dX7_hasEntry_1 : decode cX7_hasEntry 1 = .ok (.ifCond .lt 15, 3) := by decide +kernel
theorem dX7_hasEntry_4 : decode cX7_hasEntry 4 = .ok (.iload_n 1, 1) := by decide +kernel
theorem dX7_hasEntry_5 : decode cX7_hasEntry 5 = .ok (.aload_n 0, 1) := by decide +kernel
theorem dX7_hasEntry_6 : decode cX7_hasEntry 6 = .ok (.getfield 22, 3) := by decide +kernel
theorem dX7_hasEntry_9 : decode cX7_hasEntry 9 = .ok (.if_icmp .ge 7, 3) := by decide +kernel
theorem dX7_hasEntry_12 : decode cX7_hasEntry 12 = .ok (.iconst 1, 1) := by decide +kernel
theorem dX7_hasEntry_13 : decode cX7_hasEntry 13 = .ok (.goto 4, 3) := by decide +kernel
theorem dX7_hasEntry_16 : decode cX7_hasEntry 16 = .ok (.iconst 0, 1) := by decide +kernel
theorem dX7_hasEntry_17 : decode cX7_hasEntry 17 = .ok (.ireturn, 1) := by decide +kernel
theorem dX7_lockedEntries_0 : decode cX7_lockedEntries 0 = .ok (.iconst 0, 1) := by decide +kernel
theorem dX7_lockedEntries_1 : decode cX7_lockedEntries 1 = .ok (.istore_n 1, 1) := by decide +kernel
theorem dX7_lockedEntries_2 : decode cX7_lockedEntries 2 = .ok (.iconst 0, 1) := by decide +kernel
theorem dX7_lockedEntries_3 : decode cX7_lockedEntries 3 = .ok (.istore_n 2, 1) := by decide +kernel
theorem dX7_lockedEntries_4 : decode cX7_lockedEntries 4 = .ok (.iload_n 2, 1) := by decide +kernel
theorem dX7_lockedEntries_5 : decode cX7_lockedEntries 5 = .ok (.aload_n 0, 1) := by decide +kernel
theorem dX7_lockedEntries_6 : decode cX7_lockedEntries 6 = .ok (.getfield 22, 3) := by decide +kernel
theorem dX7_lockedEntries_9 : decode cX7_lockedEntries 9 = .ok (.if_icmp .ge 21, 3) := by decide +kernel
theorem dX7_lockedEntries_12 : decode cX7_lockedEntries 12 = .ok (.aload_n 0, 1) := by decide +kernel
theorem dX7_lockedEntries_13 : decode cX7_lockedEntries 13 = .ok (.getfield 28, 3) := by decide +kernel
theorem dX7_lockedEntries_16 : decode cX7_lockedEntries 16 = .ok (.iload_n 2, 1) := by decide +kernel
theorem dX7_lockedEntries_17 : decode cX7_lockedEntries 17 = .ok (.baload, 1) := by decide +kernel
theorem dX7_lockedEntries_18 : decode cX7_lockedEntries 18 = .ok (.ifCond .eq 6, 3) := by decide +kernel
theorem dX7_lockedEntries_21 : decode cX7_lockedEntries 21 = .ok (.iinc 1 1, 3) := by decide +kernel
theorem dX7_lockedEntries_24 : decode cX7_lockedEntries 24 = .ok (.iinc 2 1, 3) := by decide +kernel
theorem dX7_lockedEntries_27 : decode cX7_lockedEntries 27 = .ok (.goto (-23), 3) := by decide +kernel
theorem dX7_lockedEntries_30 : decode cX7_lockedEntries 30 = .ok (.iload_n 1, 1) := by decide +kernel
theorem dX7_lockedEntries_31 : decode cX7_lockedEntries 31 = .ok (.ireturn, 1) := by decide +kernel
