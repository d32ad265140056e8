theorem dX11_keyOf_0 : decode cX11_keyOf 0 = .ok (.aload_n 0, 1) := by decide +kernel
theorem dX11_keyOf_1 : decode cX11_keyOf 1 = .ok (.getfield 7, 3) := by decide +kernel
theorem dX11_keyOf_4 : decode cX11_keyOf 4 = .ok (.sipush 259, 3) := by decide +kernel
theorem dX11_keyOf_7 : decode cX11_keyOf 7 = .ok (.iload_n 1, 1) := by decide +kernel
theorem dX11_keyOf_8 : decode cX11_keyOf 8 = .ok (.iadd, 1) := by decide +kernel
theorem dX11_keyOf_9 : decode cX11_keyOf 9 = .ok (.iaload, 1) := by decide +kernel
theorem dX11_keyOf_10 : decode cX11_keyOf 10 = .ok (.istore 4, 2) := by decide +kernel
theorem dX11_keyOf_12 : decode cX11_keyOf 12 = .ok (.iload_n 2, 1) := by decide +kernel
theorem dX11_keyOf_13 : decode cX11_keyOf 13 = .ok (.ifCond .ne 28, 3) := by decide +kernel
theorem dX11_keyOf_16 : decode cX11_keyOf 16 = .ok (.iconst 2, 1) := by decide +kernel
theorem dX11_keyOf_17 : decode cX11_keyOf 17 = .ok (.iload 4, 2) := by decide +kernel
theorem dX11_keyOf_19 : decode cX11_keyOf 19 = .ok (.iconst 0, 1) := by decide +kernel
theorem dX11_keyOf_20 : decode cX11_keyOf 20 = .ok (.invokestatic 69, 3) := by decide +kernel
theorem dX11_keyOf_23 : decode cX11_keyOf 23 = .ok (.imul, 1) := by decide +kernel
theorem dX11_keyOf_24 : decode cX11_keyOf 24 = .ok (.iconst 5, 1) := by decide +kernel
theorem dX11_keyOf_25 : decode cX11_keyOf 25 = .ok (.iload 4, 2) := by decide +kernel
theorem dX11_keyOf_27 : decode cX11_keyOf 27 = .ok (.iconst 1, 1) := by decide +kernel
theorem dX11_keyOf_28 : decode cX11_keyOf 28 = .ok (.invokestatic 69, 3) := by decide +kernel
theorem dX11_keyOf_31 : decode cX11_keyOf 31 = .ok (.imul, 1) := by decide +kernel
theorem dX11_keyOf_32 : decode cX11_keyOf 32 = .ok (.iadd, 1) := by decide +kernel
theorem dX11_keyOf_33 : decode cX11_keyOf 33 = .ok (.iload 4, 2) := by decide +kernel
theorem dX11_keyOf_35 : decode cX11_keyOf 35 = .ok (.iconst 2, 1) := by decide +kernel
theorem dX11_keyOf_36 : decode cX11_keyOf 36 = .ok (.invokestatic 69, 3) := by decide +kernel
theorem dX11_keyOf_39 : decode cX11_keyOf 39 = .ok (.iadd, 1) := by decide +kernel
theorem dX11_keyOf_40 : decode cX11_keyOf 40 = .ok (.ireturn, 1) := by decide +kernel
theorem dX11_keyOf_41 : decode cX11_keyOf 41 = .ok (.iload_n 2, 1) := by decide +kernel
theorem dX11_keyOf_42 : decode cX11_keyOf 42 = .ok (.iconst 1, 1) := by decide +kernel
theorem dX11_keyOf_43 : decode cX11_keyOf 43 = .ok (.if_icmp .ne 13, 3) := by decide +kernel
theorem dX11_keyOf_46 : decode cX11_keyOf 46 = .ok (.aload_n 0, 1) := by decide +kernel
theorem dX11_keyOf_47 : decode cX11_keyOf 47 = .ok (.getfield 34, 3) := by decide +kernel
theorem dX11_keyOf_50 : decode cX11_keyOf 50 = .ok (.iload_n 1, 1) := by decide +kernel
theorem dX11_keyOf_51 : decode cX11_keyOf 51 = .ok (.iaload, 1) := by decide +kernel
theorem dX11_keyOf_52 : decode cX11_keyOf 52 = .ok (.ineg, 1) := by decide +kernel
theorem dX11_keyOf_53 : decode cX11_keyOf 53 = .ok (.goto 29, 3) := by decide +kernel
theorem dX11_keyOf_56 : decode cX11_keyOf 56 = .ok (.iload_n 3, 1) := by decide +kernel
theorem dX11_keyOf_57 : decode cX11_keyOf 57 = .ok (.iconst (-1), 1) := by decide +kernel
theorem dX11_keyOf_58 : decode cX11_keyOf 58 = .ok (.if_icmp .ne 8, 3) := by decide +kernel
theorem dX11_keyOf_61 : decode cX11_keyOf 61 = .ok (.iload 4, 2) := by decide +kernel
theorem dX11_keyOf_63 : decode cX11_keyOf 63 = .ok (.goto 19, 3) := by decide +kernel
theorem dX11_keyOf_66 : decode cX11_keyOf 66 = .ok (.aload_n 0, 1) := by decide +kernel
theorem dX11_keyOf_67 : decode cX11_keyOf 67 = .ok (.iload 4, 2) := by decide +kernel
theorem dX11_keyOf_69 : decode cX11_keyOf 69 = .ok (.aload_n 0, 1) := by decide +kernel
theorem dX11_keyOf_70 : decode cX11_keyOf 70 = .ok (.getfield 7, 3) := by decide +kernel
theorem dX11_keyOf_73 : decode cX11_keyOf 73 = .ok (.sipush 259, 3) := by decide +kernel
theorem dX11_keyOf_76 : decode cX11_keyOf 76 = .ok (.iload_n 3, 1) := by decide +kernel
theorem dX11_keyOf_77 : decode cX11_keyOf 77 = .ok (.iadd, 1) := by decide +kernel
theorem dX11_keyOf_78 : decode cX11_keyOf 78 = .ok (.iaload, 1) := by decide +kernel
theorem dX11_keyOf_79 : decode cX11_keyOf 79 = .ok (.invokevirtual 73, 3) := by decide +kernel
theorem dX11_keyOf_82 : decode cX11_keyOf 82 = .ok (.ireturn, 1) := by decide +kernel
theorem dX11_nextEntry_0 : decode cX11_nextEntry 0 = .ok (.iconst (-1), 1) := by decide +kernel
theorem dX11_nextEntry_1 : decode cX11_nextEntry 1 = .ok (.istore_n 3, 1) := by decide +kernel
theorem dX11_nextEntry_2 : decode cX11_nextEntry 2 = .ok (.iconst 0, 1) := by decide +kernel
theorem dX11_nextEntry_3 : decode cX11_nextEntry 3 = .ok (.istore 4, 2) := by decide +kernel
theorem dX11_nextEntry_5 : decode cX11_nextEntry 5 = .ok (.iload 4, 2) := by decide +kernel
theorem dX11_nextEntry_7 : decode cX11_nextEntry 7 = .ok (.aload_n 0, 1) := by decide +kernel
theorem dX11_nextEntry_8 : decode cX11_nextEntry 8 = .ok (.getfield 7, 3) := by decide +kernel
theorem dX11_nextEntry_11 : decode cX11_nextEntry 11 = .ok (.sipush 258, 3) := by decide +kernel
theorem dX11_nextEntry_14 : decode cX11_nextEntry 14 = .ok (.iaload, 1) := by decide +kernel
theorem dX11_nextEntry_15 : decode cX11_nextEntry 15 = .ok (.if_icmp .ge 70, 3) := by decide +kernel
theorem dX11_nextEntry_18 : decode cX11_nextEntry 18 = .ok (.aload_n 0, 1) := by decide +kernel
theorem dX11_nextEntry_19 : decode cX11_nextEntry 19 = .ok (.iload 4, 2) := by decide +kernel
theorem dX11_nextEntry_21 : decode cX11_nextEntry 21 = .ok (.invokevirtual 124, 3) := by decide +kernel
theorem dX11_nextEntry_24 : decode cX11_nextEntry 24 = .ok (.ifCond .ne 17, 3) := by decide +kernel
theorem dX11_nextEntry_27 : decode cX11_nextEntry 27 = .ok (.aload_n 0, 1) := by decide +kernel
theorem dX11_nextEntry_28 : decode cX11_nextEntry 28 = .ok (.getfield 49, 3) := by decide +kernel
theorem dX11_nextEntry_31 : decode cX11_nextEntry 31 = .ok (.iload 4, 2) := by decide +kernel
theorem dX11_nextEntry_33 : decode cX11_nextEntry 33 = .ok (.baload, 1) := by decide +kernel
theorem dX11_nextEntry_34 : decode cX11_nextEntry 34 = .ok (.ifCond .ne 7, 3) := by decide +kernel
theorem dX11_nextEntry_37 : decode cX11_nextEntry 37 = .ok (.iconst 1, 1) := by decide +kernel
theorem dX11_nextEntry_38 : decode cX11_nextEntry 38 = .ok (.goto 4, 3) := by decide +kernel
theorem dX11_nextEntry_41 : decode cX11_nextEntry 41 = .ok (.iconst 0, 1) := by decide +kernel
theorem dX11_nextEntry_42 : decode cX11_nextEntry 42 = .ok (.istore 5, 2) := by decide +kernel
theorem dX11_nextEntry_44 : decode cX11_nextEntry 44 = .ok (.iload 5, 2) := by decide +kernel
theorem dX11_nextEntry_46 : decode cX11_nextEntry 46 = .ok (.ifCond .eq 31, 3) := by decide +kernel
theorem dX11_nextEntry_49 : decode cX11_nextEntry 49 = .ok (.iload_n 3, 1) := by decide +kernel
theorem dX11_nextEntry_50 : decode cX11_nextEntry 50 = .ok (.iconst (-1), 1) := by decide +kernel
theorem dX11_nextEntry_51 : decode cX11_nextEntry 51 = .ok (.if_icmp .eq 21, 3) := by decide +kernel
theorem dX11_nextEntry_54 : decode cX11_nextEntry 54 = .ok (.aload_n 0, 1) := by decide +kernel
theorem dX11_nextEntry_55 : decode cX11_nextEntry 55 = .ok (.iload 4, 2) := by decide +kernel
theorem dX11_nextEntry_57 : decode cX11_nextEntry 57 = .ok (.iload_n 1, 1) := by decide +kernel
theorem dX11_nextEntry_58 : decode cX11_nextEntry 58 = .ok (.iload_n 2, 1) := by decide +kernel
theorem dX11_nextEntry_59 : decode cX11_nextEntry 59 = .ok (.invokevirtual 226, 3) := by decide +kernel
theorem dX11_nextEntry_62 : decode cX11_nextEntry 62 = .ok (.aload_n 0, 1) := by decide +kernel
theorem dX11_nextEntry_63 : decode cX11_nextEntry 63 = .ok (.iload_n 3, 1) := by decide +kernel
theorem dX11_nextEntry_64 : decode cX11_nextEntry 64 = .ok (.iload_n 1, 1) := by decide +kernel
theorem dX11_nextEntry_65 : decode cX11_nextEntry 65 = .ok (.iload_n 2, 1) := by decide +kernel
theorem dX11_nextEntry_66 : decode cX11_nextEntry 66 = .ok (.invokevirtual 226, 3) := by decide +kernel
theorem dX11_nextEntry_69 : decode cX11_nextEntry 69 = .ok (.if_icmp .ge 8, 3) := by decide +kernel
theorem dX11_nextEntry_72 : decode cX11_nextEntry 72 = .ok (.iload 4, 2) := by decide +kernel
theorem dX11_nextEntry_74 : decode cX11_nextEntry 74 = .ok (.goto 4, 3) := by decide +kernel
theorem dX11_nextEntry_77 : decode cX11_nextEntry 77 = .ok (.iload_n 3, 1) := by decide +kernel
theorem dX11_nextEntry_78 : decode cX11_nextEntry 78 = .ok (.istore_n 3, 1) := by decide +kernel
theorem dX11_nextEntry_79 : decode cX11_nextEntry 79 = .ok (.iinc 4 1, 3) := by decide +kernel
theorem dX11_nextEntry_82 : decode cX11_nextEntry 82 = .ok (.goto (-77), 3) := by decide +kernel
theorem dX11_nextEntry_85 : decode cX11_nextEntry 85 = .ok (.iload_n 3, 1) := by decide +kernel
theorem dX11_nextEntry_86 : decode cX11_nextEntry 86 = .ok (.ireturn, 1) := by decide +kernel
theorem dX11_sort_0 : decode cX11_sort 0 = .ok (.iload_n 1, 1) := by decide +kernel
theorem dX11_sort_1 : decode cX11_sort 1 = .ok (.iconst 0, 1) := by decide +kernel
theorem dX11_sort_2 : decode cX11_sort 2 = .ok (.iconst 2, 1) := by decide +kernel
theorem dX11_sort_3 : decode cX11_sort 3 = .ok (.invokestatic 57, 3) := by decide +kernel
theorem dX11_sort_6 : decode cX11_sort 6 = .ok (.ifCond .ne 6, 3) := by decide +kernel
theorem dX11_sort_9 : decode cX11_sort 9 = .ok (.bipush (-2), 2) := by decide +kernel
theorem dX11_sort_11 : decode cX11_sort 11 = .ok (.ireturn, 1) := by decide +kernel
theorem dX11_sort_12 : decode cX11_sort 12 = .ok (.aload_n 0, 1) := by decide +kernel
theorem dX11_sort_13 : decode cX11_sort 13 = .ok (.iconst 0, 1) := by decide +kernel
theorem dX11_sort_14 : decode cX11_sort 14 = .ok (.invokevirtual 83, 3) := by decide +kernel
theorem dX11_sort_17 : decode cX11_sort 17 = .ok (.aload_n 0, 1) := by decide +kernel
theorem dX11_sort_18 : decode cX11_sort 18 = .ok (.invokevirtual 149, 3) := by decide +kernel
theorem dX11_sort_21 : decode cX11_sort 21 = .ok (.iconst 0, 1) := by decide +kernel
theorem dX11_sort_22 : decode cX11_sort 22 = .ok (.istore_n 2, 1) := by decide +kernel
theorem dX11_sort_23 : decode cX11_sort 23 = .ok (.iload_n 2, 1) := by decide +kernel
theorem dX11_sort_24 : decode cX11_sort 24 = .ok (.bipush 16, 2) := by decide +kernel
theorem dX11_sort_26 : decode cX11_sort 26 = .ok (.if_icmp .ge 23, 3) := by decide +kernel
theorem dX11_sort_29 : decode cX11_sort 29 = .ok (.aload_n 0, 1) := by decide +kernel
theorem dX11_sort_30 : decode cX11_sort 30 = .ok (.getfield 49, 3) := by decide +kernel
theorem dX11_sort_33 : decode cX11_sort 33 = .ok (.iload_n 2, 1) := by decide +kernel
theorem dX11_sort_34 : decode cX11_sort 34 = .ok (.iconst 0, 1) := by decide +kernel
theorem dX11_sort_35 : decode cX11_sort 35 = .ok (.bastore, 1) := by decide +kernel
theorem dX11_sort_36 : decode cX11_sort 36 = .ok (.aload_n 0, 1) := by decide +kernel
theorem dX11_sort_37 : decode cX11_sort 37 = .ok (.getfield 25, 3) := by decide +kernel
theorem dX11_sort_40 : decode cX11_sort 40 = .ok (.iload_n 2, 1) := by decide +kernel
theorem dX11_sort_41 : decode cX11_sort 41 = .ok (.iload_n 2, 1) := by decide +kernel
theorem dX11_sort_42 : decode cX11_sort 42 = .ok (.iastore, 1) := by decide +kernel
theorem dX11_sort_43 : decode cX11_sort 43 = .ok (.iinc 2 1, 3) := by decide +kernel
theorem dX11_sort_46 : decode cX11_sort 46 = .ok (.goto (-23), 3) := by decide +kernel
theorem dX11_sort_49 : decode cX11_sort 49 = .ok (.iconst (-1), 1) := by decide +kernel
theorem dX11_sort_50 : decode cX11_sort 50 = .ok (.istore_n 2, 1) := by decide +kernel
theorem dX11_sort_51 : decode cX11_sort 51 = .ok (.iconst 0, 1) := by decide +kernel
theorem dX11_sort_52 : decode cX11_sort 52 = .ok (.istore_n 3, 1) := by decide +kernel
theorem dX11_sort_53 : decode cX11_sort 53 = .ok (.iload_n 3, 1) := by decide +kernel
theorem dX11_sort_54 : decode cX11_sort 54 = .ok (.aload_n 0, 1) := by decide +kernel
theorem dX11_sort_55 : decode cX11_sort 55 = .ok (.getfield 7, 3) := by decide +kernel
theorem dX11_sort_58 : decode cX11_sort 58 = .ok (.sipush 258, 3) := by decide +kernel
theorem dX11_sort_61 : decode cX11_sort 61 = .ok (.iaload, 1) := by decide +kernel
theorem dX11_sort_62 : decode cX11_sort 62 = .ok (.if_icmp .ge 38, 3) := by decide +kernel
theorem dX11_sort_65 : decode cX11_sort 65 = .ok (.aload_n 0, 1) := by decide +kernel
theorem dX11_sort_66 : decode cX11_sort 66 = .ok (.iload_n 3, 1) := by decide +kernel
theorem dX11_sort_67 : decode cX11_sort 67 = .ok (.invokevirtual 124, 3) := by decide +kernel
theorem dX11_sort_70 : decode cX11_sort 70 = .ok (.ifCond .ne 24, 3) := by decide +kernel
theorem dX11_sort_73 : decode cX11_sort 73 = .ok (.aload_n 0, 1) := by decide +kernel
theorem dX11_sort_74 : decode cX11_sort 74 = .ok (.iload_n 1, 1) := by decide +kernel
theorem dX11_sort_75 : decode cX11_sort 75 = .ok (.iload_n 2, 1) := by decide +kernel
theorem dX11_sort_76 : decode cX11_sort 76 = .ok (.invokevirtual 229, 3) := by decide +kernel
theorem dX11_sort_79 : decode cX11_sort 79 = .ok (.istore_n 2, 1) := by decide +kernel
theorem dX11_sort_80 : decode cX11_sort 80 = .ok (.aload_n 0, 1) := by decide +kernel
theorem dX11_sort_81 : decode cX11_sort 81 = .ok (.getfield 49, 3) := by decide +kernel
theorem dX11_sort_84 : decode cX11_sort 84 = .ok (.iload_n 2, 1) := by decide +kernel
theorem dX11_sort_85 : decode cX11_sort 85 = .ok (.iconst 1, 1) := by decide +kernel
theorem dX11_sort_86 : decode cX11_sort 86 = .ok (.bastore, 1) := by decide +kernel
theorem dX11_sort_87 : decode cX11_sort 87 = .ok (.aload_n 0, 1) := by decide +kernel
theorem dX11_sort_88 : decode cX11_sort 88 = .ok (.getfield 25, 3) := by decide +kernel
theorem dX11_sort_91 : decode cX11_sort 91 = .ok (.iload_n 3, 1) := by decide +kernel
theorem dX11_sort_92 : decode cX11_sort 92 = .ok (.iload_n 2, 1) := by decide +kernel
theorem dX11_sort_93 : decode cX11_sort 93 = .ok (.iastore, 1) := by decide +kernel
theorem dX11_sort_94 : decode cX11_sort 94 = .ok (.iinc 3 1, 3) := by decide +kernel
theorem dX11_sort_97 : decode cX11_sort 97 = .ok (.goto (-44), 3) := by decide +kernel
theorem dX11_sort_100 : decode cX11_sort 100 = .ok (.aload_n 0, 1) := by decide +kernel
theorem dX11_sort_101 : decode cX11_sort 101 = .ok (.invokevirtual 143, 3) := by decide +kernel
theorem dX11_sort_104 : decode cX11_sort 104 = .ok (.ireturn, 1) := by decide +kernel
theorem dX11_element_0 : decode cX11_element 0 = .ok (.iload_n 1, 1) := by decide +kernel
theorem dX11_element_1 : decode cX11_element 1 = .ok (.iconst 4, 1) := by decide +kernel
theorem dX11_element_2 : decode cX11_element 2 = .ok (.irem, 1) := by decide +kernel
theorem dX11_element_3 : decode cX11_element 3 = .ok (.istore_n 2, 1) := by decide +kernel
theorem dX11_element_4 : decode cX11_element 4 = .ok (.iload_n 2, 1) := by decide +kernel
theorem dX11_element_5 : decode cX11_element 5 = .ok (.ifCond .ne 9, 3) := by decide +kernel
theorem dX11_element_8 : decode cX11_element 8 = .ok (.ldc2_w 232, 3) := by decide +kernel
theorem dX11_element_11 : decode cX11_element 11 = .ok (.goto 28, 3) := by decide +kernel
theorem dX11_element_14 : decode cX11_element 14 = .ok (.iload_n 2, 1) := by decide +kernel
theorem dX11_element_15 : decode cX11_element 15 = .ok (.iconst 1, 1) := by decide +kernel
theorem dX11_element_16 : decode cX11_element 16 = .ok (.if_icmp .ne 9, 3) := by decide +kernel
theorem dX11_element_19 : decode cX11_element 19 = .ok (.ldc2_w 234, 3) := by decide +kernel
theorem dX11_element_22 : decode cX11_element 22 = .ok (.goto 17, 3) := by decide +kernel
theorem dX11_element_25 : decode cX11_element 25 = .ok (.iload_n 2, 1) := by decide +kernel
theorem dX11_element_26 : decode cX11_element 26 = .ok (.iconst 2, 1) := by decide +kernel
theorem dX11_element_27 : decode cX11_element 27 = .ok (.if_icmp .ne 9, 3) := by decide +kernel
theorem dX11_element_30 : decode cX11_element 30 = .ok (.ldc2_w 236, 3) := by decide +kernel
theorem dX11_element_33 : decode cX11_element 33 = .ok (.goto 6, 3) := by decide +kernel
theorem dX11_element_36 : decode cX11_element 36 = .ok (.ldc2_w 238, 3) := by decide +kernel
theorem dX11_element_39 : decode cX11_element 39 = .ok (.lstore_n 3, 1) := by decide +kernel
theorem dX11_element_40 : decode cX11_element 40 = .ok (.lload_n 3, 1) := by decide +kernel
theorem dX11_element_41 : decode cX11_element 41 = .ok (.bipush 12, 2) := by decide +kernel
theorem dX11_element_43 : decode cX11_element 43 = .ok (.iconst 4, 1) := by decide +kernel
theorem dX11_element_44 : decode cX11_element 44 = .ok (.iload_n 0, 1) := by decide +kernel
theorem dX11_element_45 : decode cX11_element 45 = .ok (.iconst 4, 1) := by decide +kernel
theorem dX11_element_46 : decode cX11_element 46 = .ok (.irem, 1) := by decide +kernel
theorem dX11_element_47 : decode cX11_element 47 = .ok (.imul, 1) := by decide +kernel
theorem dX11_element_48 : decode cX11_element 48 = .ok (.isub, 1) := by decide +kernel
theorem dX11_element_49 : decode cX11_element 49 = .ok (.lshr, 1) := by decide +kernel
theorem dX11_element_50 : decode cX11_element 50 = .ok (.l2i, 1) := by decide +kernel
theorem dX11_element_51 : decode cX11_element 51 = .ok (.bipush 15, 2) := by decide +kernel
theorem dX11_element_53 : decode cX11_element 53 = .ok (.iand, 1) := by decide +kernel
theorem dX11_element_54 : decode cX11_element 54 = .ok (.ireturn, 1) := by decide +kernel
theorem dX11_dithered_0 : decode cX11_dithered 0 = .ok (.iconst 0, 1) := by decide +kernel
theorem dX11_dithered_1 : decode cX11_dithered 1 = .ok (.istore_n 3, 1) := by decide +kernel
theorem dX11_dithered_2 : decode cX11_dithered 2 = .ok (.iconst 2, 1) := by decide +kernel
theorem dX11_dithered_3 : decode cX11_dithered 3 = .ok (.iload_n 1, 1) := by decide +kernel
theorem dX11_dithered_4 : decode cX11_dithered 4 = .ok (.aload_n 0, 1) := by decide +kernel
theorem dX11_dithered_5 : decode cX11_dithered 5 = .ok (.getfield 7, 3) := by decide +kernel
theorem dX11_dithered_8 : decode cX11_dithered 8 = .ok (.iconst 0, 1) := by decide +kernel
theorem dX11_dithered_9 : decode cX11_dithered 9 = .ok (.iaload, 1) := by decide +kernel
theorem dX11_dithered_10 : decode cX11_dithered 10 = .ok (.irem, 1) := by decide +kernel
theorem dX11_dithered_11 : decode cX11_dithered 11 = .ok (.iload_n 1, 1) := by decide +kernel
theorem dX11_dithered_12 : decode cX11_dithered 12 = .ok (.aload_n 0, 1) := by decide +kernel
theorem dX11_dithered_13 : decode cX11_dithered 13 = .ok (.getfield 7, 3) := by decide +kernel
theorem dX11_dithered_16 : decode cX11_dithered 16 = .ok (.iconst 0, 1) := by decide +kernel
theorem dX11_dithered_17 : decode cX11_dithered 17 = .ok (.iaload, 1) := by decide +kernel
theorem dX11_dithered_18 : decode cX11_dithered 18 = .ok (.idiv, 1) := by decide +kernel
theorem dX11_dithered_19 : decode cX11_dithered 19 = .ok (.invokestatic 240, 3) := by decide +kernel
theorem dX11_dithered_22 : decode cX11_dithered 22 = .ok (.imul, 1) := by decide +kernel
theorem dX11_dithered_23 : decode cX11_dithered 23 = .ok (.bipush 15, 2) := by decide +kernel
theorem dX11_dithered_25 : decode cX11_dithered 25 = .ok (.isub, 1) := by decide +kernel
theorem dX11_dithered_26 : decode cX11_dithered 26 = .ok (.iload_n 2, 1) := by decide +kernel
theorem dX11_dithered_27 : decode cX11_dithered 27 = .ok (.imul, 1) := by decide +kernel
theorem dX11_dithered_28 : decode cX11_dithered 28 = .ok (.bipush 16, 2) := by decide +kernel
theorem dX11_dithered_30 : decode cX11_dithered 30 = .ok (.idiv, 1) := by decide +kernel
theorem dX11_dithered_31 : decode cX11_dithered 31 = .ok (.istore 4, 2) := by decide +kernel
theorem dX11_dithered_33 : decode cX11_dithered 33 = .ok (.iconst 0, 1) := by decide +kernel
theorem dX11_dithered_34 : decode cX11_dithered 34 = .ok (.istore 5, 2) := by decide +kernel
theorem dX11_dithered_36 : decode cX11_dithered 36 = .ok (.iload 5, 2) := by decide +kernel
theorem dX11_dithered_38 : decode cX11_dithered 38 = .ok (.iconst 3, 1) := by decide +kernel
theorem dX11_dithered_39 : decode cX11_dithered 39 = .ok (.if_icmp .ge 35, 3) := by decide +kernel
theorem dX11_dithered_42 : decode cX11_dithered 42 = .ok (.sipush 256, 3) := by decide +kernel
theorem dX11_dithered_45 : decode cX11_dithered 45 = .ok (.iload_n 3, 1) := by decide +kernel
theorem dX11_dithered_46 : decode cX11_dithered 46 = .ok (.imul, 1) := by decide +kernel
theorem dX11_dithered_47 : decode cX11_dithered 47 = .ok (.aload_n 0, 1) := by decide +kernel
theorem dX11_dithered_48 : decode cX11_dithered 48 = .ok (.getfield 7, 3) := by decide +kernel
theorem dX11_dithered_51 : decode cX11_dithered 51 = .ok (.iconst 2, 1) := by decide +kernel
theorem dX11_dithered_52 : decode cX11_dithered 52 = .ok (.iload_n 1, 1) := by decide +kernel
theorem dX11_dithered_53 : decode cX11_dithered 53 = .ok (.iadd, 1) := by decide +kernel
theorem dX11_dithered_54 : decode cX11_dithered 54 = .ok (.iaload, 1) := by decide +kernel
theorem dX11_dithered_55 : decode cX11_dithered 55 = .ok (.iload 5, 2) := by decide +kernel
theorem dX11_dithered_57 : decode cX11_dithered 57 = .ok (.invokestatic 69, 3) := by decide +kernel
theorem dX11_dithered_60 : decode cX11_dithered 60 = .ok (.iload 4, 2) := by decide +kernel
theorem dX11_dithered_62 : decode cX11_dithered 62 = .ok (.iadd, 1) := by decide +kernel
theorem dX11_dithered_63 : decode cX11_dithered 63 = .ok (.invokestatic 108, 3) := by decide +kernel
theorem dX11_dithered_66 : decode cX11_dithered 66 = .ok (.iadd, 1) := by decide +kernel
theorem dX11_dithered_67 : decode cX11_dithered 67 = .ok (.istore_n 3, 1) := by decide +kernel
theorem dX11_dithered_68 : decode cX11_dithered 68 = .ok (.iinc 5 1, 3) := by decide +kernel
theorem dX11_dithered_71 : decode cX11_dithered 71 = .ok (.goto (-35), 3) := by decide +kernel
theorem dX11_dithered_74 : decode cX11_dithered 74 = .ok (.aload_n 0, 1) := by decide +kernel
theorem dX11_dithered_75 : decode cX11_dithered 75 = .ok (.iload_n 3, 1) := by decide +kernel
theorem dX11_dithered_76 : decode cX11_dithered 76 = .ok (.invokevirtual 146, 3) := by decide +kernel
theorem dX11_dithered_79 : decode cX11_dithered 79 = .ok (.ireturn, 1) := by decide +kernel
theorem dX11_down_0 : decode cX11_down 0 = .ok (.iload_n 0, 1) := by decide +kernel
theorem dX11_down_1 : decode cX11_down 1 = .ok (.iload_n 1, 1) := by decide +kernel
theorem dX11_down_2 : decode cX11_down 2 = .ok (.idiv, 1) := by decide +kernel
theorem dX11_down_3 : decode cX11_down 3 = .ok (.istore_n 2, 1) := by decide +kernel
theorem dX11_down_4 : decode cX11_down 4 = .ok (.iload_n 0, 1) := by decide +kernel
theorem dX11_down_5 : decode cX11_down 5 = .ok (.iload_n 1, 1) := by decide +kernel
theorem dX11_down_6 : decode cX11_down 6 = .ok (.irem, 1) := by decide +kernel
theorem dX11_down_7 : decode cX11_down 7 = .ok (.ifCond .ge 9, 3) := by decide +kernel
theorem dX11_down_10 : decode cX11_down 10 = .ok (.iload_n 2, 1) := by decide +kernel
theorem dX11_down_11 : decode cX11_down 11 = .ok (.iconst 1, 1) := by decide +kernel
theorem dX11_down_12 : decode cX11_down 12 = .ok (.isub, 1) := by decide +kernel
theorem dX11_down_13 : decode cX11_down 13 = .ok (.goto 4, 3) := by decide +kernel
theorem dX11_down_16 : decode cX11_down 16 = .ok (.iload_n 2, 1) := by decide +kernel
theorem dX11_down_17 : decode cX11_down 17 = .ok (.ireturn, 1) := by decide +kernel
theorem dX11_gives_0 : decode cX11_gives 0 = .ok (.aload_n 0, 1) := by decide +kernel
theorem dX11_gives_1 : decode cX11_gives 1 = .ok (.iload_n 1, 1) := by decide +kernel
theorem dX11_gives_2 : decode cX11_gives 2 = .ok (.iload_n 2, 1) := by decide +kernel
theorem dX11_gives_3 : decode cX11_gives 3 = .ok (.invokevirtual 87, 3) := by decide +kernel
theorem dX11_gives_6 : decode cX11_gives 6 = .ok (.ifCond .eq 44, 3) := by decide +kernel
theorem dX11_gives_9 : decode cX11_gives 9 = .ok (.aload_n 0, 1) := by decide +kernel
theorem dX11_gives_10 : decode cX11_gives 10 = .ok (.iload_n 2, 1) := by decide +kernel
theorem dX11_gives_11 : decode cX11_gives 11 = .ok (.aload_n 0, 1) := by decide +kernel
theorem dX11_gives_12 : decode cX11_gives 12 = .ok (.getfield 7, 3) := by decide +kernel
theorem dX11_gives_15 : decode cX11_gives 15 = .ok (.iconst 0, 1) := by decide +kernel
theorem dX11_gives_16 : decode cX11_gives 16 = .ok (.iaload, 1) := by decide +kernel
theorem dX11_gives_17 : decode cX11_gives 17 = .ok (.imul, 1) := by decide +kernel
theorem dX11_gives_18 : decode cX11_gives 18 = .ok (.iload_n 1, 1) := by decide +kernel
theorem dX11_gives_19 : decode cX11_gives 19 = .ok (.iadd, 1) := by decide +kernel
theorem dX11_gives_20 : decode cX11_gives 20 = .ok (.invokevirtual 65, 3) := by decide +kernel
theorem dX11_gives_23 : decode cX11_gives 23 = .ok (.ifCond .eq 27, 3) := by decide +kernel
theorem dX11_gives_26 : decode cX11_gives 26 = .ok (.aload_n 0, 1) := by decide +kernel
theorem dX11_gives_27 : decode cX11_gives 27 = .ok (.getfield 53, 3) := by decide +kernel
theorem dX11_gives_30 : decode cX11_gives 30 = .ok (.iconst 3, 1) := by decide +kernel
theorem dX11_gives_31 : decode cX11_gives 31 = .ok (.iload_n 2, 1) := by decide +kernel
theorem dX11_gives_32 : decode cX11_gives 32 = .ok (.aload_n 0, 1) := by decide +kernel
theorem dX11_gives_33 : decode cX11_gives 33 = .ok (.getfield 7, 3) := by decide +kernel
theorem dX11_gives_36 : decode cX11_gives 36 = .ok (.iconst 0, 1) := by decide +kernel
theorem dX11_gives_37 : decode cX11_gives 37 = .ok (.iaload, 1) := by decide +kernel
theorem dX11_gives_38 : decode cX11_gives 38 = .ok (.imul, 1) := by decide +kernel
theorem dX11_gives_39 : decode cX11_gives 39 = .ok (.iload_n 1, 1) := by decide +kernel
theorem dX11_gives_40 : decode cX11_gives 40 = .ok (.iadd, 1) := by decide +kernel
theorem dX11_gives_41 : decode cX11_gives 41 = .ok (.imul, 1) := by decide +kernel
theorem dX11_gives_42 : decode cX11_gives 42 = .ok (.iload_n 3, 1) := by decide +kernel
theorem dX11_gives_43 : decode cX11_gives 43 = .ok (.iadd, 1) := by decide +kernel
theorem dX11_gives_44 : decode cX11_gives 44 = .ok (.dup2, 1) := by decide +kernel
theorem dX11_gives_45 : decode cX11_gives 45 = .ok (.iaload, 1) := by decide +kernel
theorem dX11_gives_46 : decode cX11_gives 46 = .ok (.iload 4, 2) := by decide +kernel
theorem dX11_gives_48 : decode cX11_gives 48 = .ok (.iadd, 1) := by decide +kernel
theorem dX11_gives_49 : decode cX11_gives 49 = .ok (.iastore, 1) := by decide +kernel
theorem dX11_gives_50 : decode cX11_gives 50 = .ok (.return_, 1) := by decide +kernel
theorem dX11_spreads_0 : decode cX11_spreads 0 = .ok (.iload_n 2, 1) := by decide +kernel
theorem dX11_spreads_1 : decode cX11_spreads 1 = .ok (.iconst 2, 1) := by decide +kernel
theorem dX11_spreads_2 : decode cX11_spreads 2 = .ok (.irem, 1) := by decide +kernel
theorem dX11_spreads_3 : decode cX11_spreads 3 = .ok (.ifCond .ne 7, 3) := by decide +kernel
theorem dX11_spreads_6 : decode cX11_spreads 6 = .ok (.iconst 1, 1) := by decide +kernel
theorem dX11_spreads_7 : decode cX11_spreads 7 = .ok (.goto 4, 3) := by decide +kernel
theorem dX11_spreads_10 : decode cX11_spreads 10 = .ok (.iconst (-1), 1) := by decide +kernel
theorem dX11_spreads_11 : decode cX11_spreads 11 = .ok (.istore 6, 2) := by decide +kernel
theorem dX11_spreads_13 : decode cX11_spreads 13 = .ok (.iload 5, 2) := by decide +kernel
theorem dX11_spreads_15 : decode cX11_spreads 15 = .ok (.iconst 2, 1) := by decide +kernel
theorem dX11_spreads_16 : decode cX11_spreads 16 = .ok (.if_icmp .ne 100, 3) := by decide +kernel
theorem dX11_spreads_19 : decode cX11_spreads 19 = .ok (.bipush 7, 2) := by decide +kernel
theorem dX11_spreads_21 : decode cX11_spreads 21 = .ok (.iload 4, 2) := by decide +kernel
theorem dX11_spreads_23 : decode cX11_spreads 23 = .ok (.imul, 1) := by decide +kernel
theorem dX11_spreads_24 : decode cX11_spreads 24 = .ok (.bipush 16, 2) := by decide +kernel
theorem dX11_spreads_26 : decode cX11_spreads 26 = .ok (.invokestatic 243, 3) := by decide +kernel
theorem dX11_spreads_29 : decode cX11_spreads 29 = .ok (.istore 7, 2) := by decide +kernel
theorem dX11_spreads_31 : decode cX11_spreads 31 = .ok (.iconst 3, 1) := by decide +kernel
theorem dX11_spreads_32 : decode cX11_spreads 32 = .ok (.iload 4, 2) := by decide +kernel
theorem dX11_spreads_34 : decode cX11_spreads 34 = .ok (.imul, 1) := by decide +kernel
theorem dX11_spreads_35 : decode cX11_spreads 35 = .ok (.bipush 16, 2) := by decide +kernel
theorem dX11_spreads_37 : decode cX11_spreads 37 = .ok (.invokestatic 243, 3) := by decide +kernel
theorem dX11_spreads_40 : decode cX11_spreads 40 = .ok (.istore 8, 2) := by decide +kernel
theorem dX11_spreads_42 : decode cX11_spreads 42 = .ok (.iconst 5, 1) := by decide +kernel
theorem dX11_spreads_43 : decode cX11_spreads 43 = .ok (.iload 4, 2) := by decide +kernel
theorem dX11_spreads_45 : decode cX11_spreads 45 = .ok (.imul, 1) := by decide +kernel
theorem dX11_spreads_46 : decode cX11_spreads 46 = .ok (.bipush 16, 2) := by decide +kernel
theorem dX11_spreads_48 : decode cX11_spreads 48 = .ok (.invokestatic 243, 3) := by decide +kernel
theorem dX11_spreads_51 : decode cX11_spreads 51 = .ok (.istore 9, 2) := by decide +kernel
theorem dX11_spreads_53 : decode cX11_spreads 53 = .ok (.aload_n 0, 1) := by decide +kernel
theorem dX11_spreads_54 : decode cX11_spreads 54 = .ok (.iload_n 1, 1) := by decide +kernel
theorem dX11_spreads_55 : decode cX11_spreads 55 = .ok (.iload 6, 2) := by decide +kernel
theorem dX11_spreads_57 : decode cX11_spreads 57 = .ok (.iadd, 1) := by decide +kernel
theorem dX11_spreads_58 : decode cX11_spreads 58 = .ok (.iload_n 2, 1) := by decide +kernel
theorem dX11_spreads_59 : decode cX11_spreads 59 = .ok (.iload_n 3, 1) := by decide +kernel
theorem dX11_spreads_60 : decode cX11_spreads 60 = .ok (.iload 7, 2) := by decide +kernel
theorem dX11_spreads_62 : decode cX11_spreads 62 = .ok (.invokevirtual 246, 3) := by decide +kernel
theorem dX11_spreads_65 : decode cX11_spreads 65 = .ok (.aload_n 0, 1) := by decide +kernel
theorem dX11_spreads_66 : decode cX11_spreads 66 = .ok (.iload_n 1, 1) := by decide +kernel
theorem dX11_spreads_67 : decode cX11_spreads 67 = .ok (.iload 6, 2) := by decide +kernel
theorem dX11_spreads_69 : decode cX11_spreads 69 = .ok (.isub, 1) := by decide +kernel
theorem dX11_spreads_70 : decode cX11_spreads 70 = .ok (.iload_n 2, 1) := by decide +kernel
theorem dX11_spreads_71 : decode cX11_spreads 71 = .ok (.iconst 1, 1) := by decide +kernel
theorem dX11_spreads_72 : decode cX11_spreads 72 = .ok (.iadd, 1) := by decide +kernel
theorem dX11_spreads_73 : decode cX11_spreads 73 = .ok (.iload_n 3, 1) := by decide +kernel
theorem dX11_spreads_74 : decode cX11_spreads 74 = .ok (.iload 8, 2) := by decide +kernel
theorem dX11_spreads_76 : decode cX11_spreads 76 = .ok (.invokevirtual 246, 3) := by decide +kernel
theorem dX11_spreads_79 : decode cX11_spreads 79 = .ok (.aload_n 0, 1) := by decide +kernel
theorem dX11_spreads_80 : decode cX11_spreads 80 = .ok (.iload_n 1, 1) := by decide +kernel
theorem dX11_spreads_81 : decode cX11_spreads 81 = .ok (.iload_n 2, 1) := by decide +kernel
theorem dX11_spreads_82 : decode cX11_spreads 82 = .ok (.iconst 1, 1) := by decide +kernel
theorem dX11_spreads_83 : decode cX11_spreads 83 = .ok (.iadd, 1) := by decide +kernel
theorem dX11_spreads_84 : decode cX11_spreads 84 = .ok (.iload_n 3, 1) := by decide +kernel
theorem dX11_spreads_85 : decode cX11_spreads 85 = .ok (.iload 9, 2) := by decide +kernel
theorem dX11_spreads_87 : decode cX11_spreads 87 = .ok (.invokevirtual 246, 3) := by decide +kernel
theorem dX11_spreads_90 : decode cX11_spreads 90 = .ok (.aload_n 0, 1) := by decide +kernel
theorem dX11_spreads_91 : decode cX11_spreads 91 = .ok (.iload_n 1, 1) := by decide +kernel
theorem dX11_spreads_92 : decode cX11_spreads 92 = .ok (.iload 6, 2) := by decide +kernel
theorem dX11_spreads_94 : decode cX11_spreads 94 = .ok (.iadd, 1) := by decide +kernel
theorem dX11_spreads_95 : decode cX11_spreads 95 = .ok (.iload_n 2, 1) := by decide +kernel
theorem dX11_spreads_96 : decode cX11_spreads 96 = .ok (.iconst 1, 1) := by decide +kernel
theorem dX11_spreads_97 : decode cX11_spreads 97 = .ok (.iadd, 1) := by decide +kernel
theorem dX11_spreads_98 : decode cX11_spreads 98 = .ok (.iload_n 3, 1) := by decide +kernel
theorem dX11_spreads_99 : decode cX11_spreads 99 = .ok (.iload 4, 2) := by decide +kernel
theorem dX11_spreads_101 : decode cX11_spreads 101 = .ok (.iload 7, 2) := by decide +kernel
theorem dX11_spreads_103 : decode cX11_spreads 103 = .ok (.isub, 1) := by decide +kernel
theorem dX11_spreads_104 : decode cX11_spreads 104 = .ok (.iload 8, 2) := by decide +kernel
theorem dX11_spreads_106 : decode cX11_spreads 106 = .ok (.isub, 1) := by decide +kernel
theorem dX11_spreads_107 : decode cX11_spreads 107 = .ok (.iload 9, 2) := by decide +kernel
theorem dX11_spreads_109 : decode cX11_spreads 109 = .ok (.isub, 1) := by decide +kernel
theorem dX11_spreads_110 : decode cX11_spreads 110 = .ok (.invokevirtual 246, 3) := by decide +kernel
theorem dX11_spreads_113 : decode cX11_spreads 113 = .ok (.goto 86, 3) := by decide +kernel
theorem dX11_spreads_116 : decode cX11_spreads 116 = .ok (.iload 4, 2) := by decide +kernel
theorem dX11_spreads_118 : decode cX11_spreads 118 = .ok (.bipush 8, 2) := by decide +kernel
theorem dX11_spreads_120 : decode cX11_spreads 120 = .ok (.invokestatic 243, 3) := by decide +kernel
theorem dX11_spreads_123 : decode cX11_spreads 123 = .ok (.istore 7, 2) := by decide +kernel
theorem dX11_spreads_125 : decode cX11_spreads 125 = .ok (.aload_n 0, 1) := by decide +kernel
theorem dX11_spreads_126 : decode cX11_spreads 126 = .ok (.iload_n 1, 1) := by decide +kernel
theorem dX11_spreads_127 : decode cX11_spreads 127 = .ok (.iload 6, 2) := by decide +kernel
theorem dX11_spreads_129 : decode cX11_spreads 129 = .ok (.iadd, 1) := by decide +kernel
theorem dX11_spreads_130 : decode cX11_spreads 130 = .ok (.iload_n 2, 1) := by decide +kernel
theorem dX11_spreads_131 : decode cX11_spreads 131 = .ok (.iload_n 3, 1) := by decide +kernel
theorem dX11_spreads_132 : decode cX11_spreads 132 = .ok (.iload 7, 2) := by decide +kernel
theorem dX11_spreads_134 : decode cX11_spreads 134 = .ok (.invokevirtual 246, 3) := by decide +kernel
theorem dX11_spreads_137 : decode cX11_spreads 137 = .ok (.aload_n 0, 1) := by decide +kernel
theorem dX11_spreads_138 : decode cX11_spreads 138 = .ok (.iload_n 1, 1) := by decide +kernel
theorem dX11_spreads_139 : decode cX11_spreads 139 = .ok (.iconst 2, 1) := by decide +kernel
theorem dX11_spreads_140 : decode cX11_spreads 140 = .ok (.iload 6, 2) := by decide +kernel
theorem dX11_spreads_142 : decode cX11_spreads 142 = .ok (.imul, 1) := by decide +kernel
theorem dX11_spreads_143 : decode cX11_spreads 143 = .ok (.iadd, 1) := by decide +kernel
theorem dX11_spreads_144 : decode cX11_spreads 144 = .ok (.iload_n 2, 1) := by decide +kernel
theorem dX11_spreads_145 : decode cX11_spreads 145 = .ok (.iload_n 3, 1) := by decide +kernel
theorem dX11_spreads_146 : decode cX11_spreads 146 = .ok (.iload 7, 2) := by decide +kernel
theorem dX11_spreads_148 : decode cX11_spreads 148 = .ok (.invokevirtual 246, 3) := by decide +kernel
theorem dX11_spreads_151 : decode cX11_spreads 151 = .ok (.aload_n 0, 1) := by decide +kernel
theorem dX11_spreads_152 : decode cX11_spreads 152 = .ok (.iload_n 1, 1) := by decide +kernel
theorem dX11_spreads_153 : decode cX11_spreads 153 = .ok (.iconst 1, 1) := by decide +kernel
theorem dX11_spreads_154 : decode cX11_spreads 154 = .ok (.isub, 1) := by decide +kernel
theorem dX11_spreads_155 : decode cX11_spreads 155 = .ok (.iload_n 2, 1) := by decide +kernel
theorem dX11_spreads_156 : decode cX11_spreads 156 = .ok (.iconst 1, 1) := by decide +kernel
theorem dX11_spreads_157 : decode cX11_spreads 157 = .ok (.iadd, 1) := by decide +kernel
theorem dX11_spreads_158 : decode cX11_spreads 158 = .ok (.iload_n 3, 1) := by decide +kernel
theorem dX11_spreads_159 : decode cX11_spreads 159 = .ok (.iload 7, 2) := by decide +kernel
theorem dX11_spreads_161 : decode cX11_spreads 161 = .ok (.invokevirtual 246, 3) := by decide +kernel
theorem dX11_spreads_164 : decode cX11_spreads 164 = .ok (.aload_n 0, 1) := by decide +kernel
theorem dX11_spreads_165 : decode cX11_spreads 165 = .ok (.iload_n 1, 1) := by decide +kernel
theorem dX11_spreads_166 : decode cX11_spreads 166 = .ok (.iload_n 2, 1) := by decide +kernel
theorem dX11_spreads_167 : decode cX11_spreads 167 = .ok (.iconst 1, 1) := by decide +kernel
theorem dX11_spreads_168 : decode cX11_spreads 168 = .ok (.iadd, 1) := by decide +kernel
theorem dX11_spreads_169 : decode cX11_spreads 169 = .ok (.iload_n 3, 1) := by decide +kernel
theorem dX11_spreads_170 : decode cX11_spreads 170 = .ok (.iload 7, 2) := by decide +kernel
theorem dX11_spreads_172 : decode cX11_spreads 172 = .ok (.invokevirtual 246, 3) := by decide +kernel
theorem dX11_spreads_175 : decode cX11_spreads 175 = .ok (.aload_n 0, 1) := by decide +kernel
theorem dX11_spreads_176 : decode cX11_spreads 176 = .ok (.iload_n 1, 1) := by decide +kernel
theorem dX11_spreads_177 : decode cX11_spreads 177 = .ok (.iconst 1, 1) := by decide +kernel
theorem dX11_spreads_178 : decode cX11_spreads 178 = .ok (.iadd, 1) := by decide +kernel
theorem dX11_spreads_179 : decode cX11_spreads 179 = .ok (.iload_n 2, 1) := by decide +kernel
theorem dX11_spreads_180 : decode cX11_spreads 180 = .ok (.iconst 1, 1) := by decide +kernel
theorem dX11_spreads_181 : decode cX11_spreads 181 = .ok (.iadd, 1) := by decide +kernel
theorem dX11_spreads_182 : decode cX11_spreads 182 = .ok (.iload_n 3, 1) := by decide +kernel
theorem dX11_spreads_183 : decode cX11_spreads 183 = .ok (.iload 7, 2) := by decide +kernel
theorem dX11_spreads_185 : decode cX11_spreads 185 = .ok (.invokevirtual 246, 3) := by decide +kernel
theorem dX11_spreads_188 : decode cX11_spreads 188 = .ok (.aload_n 0, 1) := by decide +kernel
theorem dX11_spreads_189 : decode cX11_spreads 189 = .ok (.iload_n 1, 1) := by decide +kernel
theorem dX11_spreads_190 : decode cX11_spreads 190 = .ok (.iload_n 2, 1) := by decide +kernel
theorem dX11_spreads_191 : decode cX11_spreads 191 = .ok (.iconst 2, 1) := by decide +kernel
theorem dX11_spreads_192 : decode cX11_spreads 192 = .ok (.iadd, 1) := by decide +kernel
theorem dX11_spreads_193 : decode cX11_spreads 193 = .ok (.iload_n 3, 1) := by decide +kernel
theorem dX11_spreads_194 : decode cX11_spreads 194 = .ok (.iload 7, 2) := by decide +kernel
theorem dX11_spreads_196 : decode cX11_spreads 196 = .ok (.invokevirtual 246, 3) := by decide +kernel
theorem dX11_spreads_199 : decode cX11_spreads 199 = .ok (.return_, 1) := by decide +kernel
theorem dX11_visits_0 : decode cX11_visits 0 = .ok (.iload_n 2, 1) := by decide +kernel
theorem dX11_visits_1 : decode cX11_visits 1 = .ok (.aload_n 0, 1) := by decide +kernel
theorem dX11_visits_2 : decode cX11_visits 2 = .ok (.getfield 7, 3) := by decide +kernel
theorem dX11_visits_5 : decode cX11_visits 5 = .ok (.iconst 0, 1) := by decide +kernel
theorem dX11_visits_6 : decode cX11_visits 6 = .ok (.iaload, 1) := by decide +kernel
theorem dX11_visits_7 : decode cX11_visits 7 = .ok (.imul, 1) := by decide +kernel
theorem dX11_visits_8 : decode cX11_visits 8 = .ok (.iload_n 1, 1) := by decide +kernel
theorem dX11_visits_9 : decode cX11_visits 9 = .ok (.iadd, 1) := by decide +kernel
theorem dX11_visits_10 : decode cX11_visits 10 = .ok (.istore 4, 2) := by decide +kernel
theorem dX11_visits_12 : decode cX11_visits 12 = .ok (.iconst 0, 1) := by decide +kernel
theorem dX11_visits_13 : decode cX11_visits 13 = .ok (.istore 5, 2) := by decide +kernel
theorem dX11_visits_15 : decode cX11_visits 15 = .ok (.iconst 0, 1) := by decide +kernel
theorem dX11_visits_16 : decode cX11_visits 16 = .ok (.istore 6, 2) := by decide +kernel
theorem dX11_visits_18 : decode cX11_visits 18 = .ok (.iload 6, 2) := by decide +kernel
theorem dX11_visits_20 : decode cX11_visits 20 = .ok (.iconst 3, 1) := by decide +kernel
theorem dX11_visits_21 : decode cX11_visits 21 = .ok (.if_icmp .ge 41, 3) := by decide +kernel
theorem dX11_visits_24 : decode cX11_visits 24 = .ok (.sipush 256, 3) := by decide +kernel
theorem dX11_visits_27 : decode cX11_visits 27 = .ok (.iload 5, 2) := by decide +kernel
theorem dX11_visits_29 : decode cX11_visits 29 = .ok (.imul, 1) := by decide +kernel
theorem dX11_visits_30 : decode cX11_visits 30 = .ok (.aload_n 0, 1) := by decide +kernel
theorem dX11_visits_31 : decode cX11_visits 31 = .ok (.getfield 53, 3) := by decide +kernel
theorem dX11_visits_34 : decode cX11_visits 34 = .ok (.iconst 3, 1) := by decide +kernel
theorem dX11_visits_35 : decode cX11_visits 35 = .ok (.iload 4, 2) := by decide +kernel
theorem dX11_visits_37 : decode cX11_visits 37 = .ok (.imul, 1) := by decide +kernel
theorem dX11_visits_38 : decode cX11_visits 38 = .ok (.iload 6, 2) := by decide +kernel
theorem dX11_visits_40 : decode cX11_visits 40 = .ok (.iadd, 1) := by decide +kernel
theorem dX11_visits_41 : decode cX11_visits 41 = .ok (.iaload, 1) := by decide +kernel
theorem dX11_visits_42 : decode cX11_visits 42 = .ok (.bipush 8, 2) := by decide +kernel
theorem dX11_visits_44 : decode cX11_visits 44 = .ok (.iadd, 1) := by decide +kernel
theorem dX11_visits_45 : decode cX11_visits 45 = .ok (.bipush 16, 2) := by decide +kernel
theorem dX11_visits_47 : decode cX11_visits 47 = .ok (.invokestatic 243, 3) := by decide +kernel
theorem dX11_visits_50 : decode cX11_visits 50 = .ok (.invokestatic 108, 3) := by decide +kernel
theorem dX11_visits_53 : decode cX11_visits 53 = .ok (.iadd, 1) := by decide +kernel
theorem dX11_visits_54 : decode cX11_visits 54 = .ok (.istore 5, 2) := by decide +kernel
theorem dX11_visits_56 : decode cX11_visits 56 = .ok (.iinc 6 1, 3) := by decide +kernel
theorem dX11_visits_59 : decode cX11_visits 59 = .ok (.goto (-41), 3) := by decide +kernel
theorem dX11_visits_62 : decode cX11_visits 62 = .ok (.aload_n 0, 1) := by decide +kernel
theorem dX11_visits_63 : decode cX11_visits 63 = .ok (.iload 5, 2) := by decide +kernel
theorem dX11_visits_65 : decode cX11_visits 65 = .ok (.invokevirtual 146, 3) := by decide +kernel
theorem dX11_visits_68 : decode cX11_visits 68 = .ok (.istore 6, 2) := by decide +kernel
theorem dX11_visits_70 : decode cX11_visits 70 = .ok (.aload_n 0, 1) := by decide +kernel
theorem dX11_visits_71 : decode cX11_visits 71 = .ok (.getfield 7, 3) := by decide +kernel
theorem dX11_visits_74 : decode cX11_visits 74 = .ok (.sipush 293, 3) := by decide +kernel
theorem dX11_visits_77 : decode cX11_visits 77 = .ok (.iload 4, 2) := by decide +kernel
theorem dX11_visits_79 : decode cX11_visits 79 = .ok (.iadd, 1) := by decide +kernel
theorem dX11_visits_80 : decode cX11_visits 80 = .ok (.iload 6, 2) := by decide +kernel
theorem dX11_visits_82 : decode cX11_visits 82 = .ok (.iastore, 1) := by decide +kernel
theorem dX11_visits_83 : decode cX11_visits 83 = .ok (.iconst 0, 1) := by decide +kernel
theorem dX11_visits_84 : decode cX11_visits 84 = .ok (.istore 7, 2) := by decide +kernel
theorem dX11_visits_86 : decode cX11_visits 86 = .ok (.iload 7, 2) := by decide +kernel
theorem dX11_visits_88 : decode cX11_visits 88 = .ok (.iconst 3, 1) := by decide +kernel
theorem dX11_visits_89 : decode cX11_visits 89 = .ok (.if_icmp .ge 50, 3) := by decide +kernel
theorem dX11_visits_92 : decode cX11_visits 92 = .ok (.aload_n 0, 1) := by decide +kernel
theorem dX11_visits_93 : decode cX11_visits 93 = .ok (.iload_n 1, 1) := by decide +kernel
theorem dX11_visits_94 : decode cX11_visits 94 = .ok (.iload_n 2, 1) := by decide +kernel
theorem dX11_visits_95 : decode cX11_visits 95 = .ok (.iload 7, 2) := by decide +kernel
theorem dX11_visits_97 : decode cX11_visits 97 = .ok (.aload_n 0, 1) := by decide +kernel
theorem dX11_visits_98 : decode cX11_visits 98 = .ok (.getfield 53, 3) := by decide +kernel
theorem dX11_visits_101 : decode cX11_visits 101 = .ok (.iconst 3, 1) := by decide +kernel
theorem dX11_visits_102 : decode cX11_visits 102 = .ok (.iload 4, 2) := by decide +kernel
theorem dX11_visits_104 : decode cX11_visits 104 = .ok (.imul, 1) := by decide +kernel
theorem dX11_visits_105 : decode cX11_visits 105 = .ok (.iload 7, 2) := by decide +kernel
theorem dX11_visits_107 : decode cX11_visits 107 = .ok (.iadd, 1) := by decide +kernel
theorem dX11_visits_108 : decode cX11_visits 108 = .ok (.iaload, 1) := by decide +kernel
theorem dX11_visits_109 : decode cX11_visits 109 = .ok (.bipush 16, 2) := by decide +kernel
theorem dX11_visits_111 : decode cX11_visits 111 = .ok (.aload_n 0, 1) := by decide +kernel
theorem dX11_visits_112 : decode cX11_visits 112 = .ok (.getfield 7, 3) := by decide +kernel
theorem dX11_visits_115 : decode cX11_visits 115 = .ok (.sipush 259, 3) := by decide +kernel
theorem dX11_visits_118 : decode cX11_visits 118 = .ok (.iload 6, 2) := by decide +kernel
theorem dX11_visits_120 : decode cX11_visits 120 = .ok (.iadd, 1) := by decide +kernel
theorem dX11_visits_121 : decode cX11_visits 121 = .ok (.iaload, 1) := by decide +kernel
theorem dX11_visits_122 : decode cX11_visits 122 = .ok (.iload 7, 2) := by decide +kernel
theorem dX11_visits_124 : decode cX11_visits 124 = .ok (.invokestatic 69, 3) := by decide +kernel
theorem dX11_visits_127 : decode cX11_visits 127 = .ok (.imul, 1) := by decide +kernel
theorem dX11_visits_128 : decode cX11_visits 128 = .ok (.isub, 1) := by decide +kernel
theorem dX11_visits_129 : decode cX11_visits 129 = .ok (.iload_n 3, 1) := by decide +kernel
theorem dX11_visits_130 : decode cX11_visits 130 = .ok (.invokevirtual 250, 3) := by decide +kernel
theorem dX11_visits_133 : decode cX11_visits 133 = .ok (.iinc 7 1, 3) := by decide +kernel
theorem dX11_visits_136 : decode cX11_visits 136 = .ok (.goto (-50), 3) := by decide +kernel
theorem dX11_visits_139 : decode cX11_visits 139 = .ok (.return_, 1) := by decide +kernel
theorem dX11_diffuses_0 : decode cX11_diffuses 0 = .ok (.iconst 0, 1) := by decide +kernel
theorem dX11_diffuses_1 : decode cX11_diffuses 1 = .ok (.istore_n 2, 1) := by decide +kernel
theorem dX11_diffuses_2 : decode cX11_diffuses 2 = .ok (.iload_n 2, 1) := by decide +kernel
theorem dX11_diffuses_3 : decode cX11_diffuses 3 = .ok (.iconst 3, 1) := by decide +kernel
theorem dX11_diffuses_4 : decode cX11_diffuses 4 = .ok (.aload_n 0, 1) := by decide +kernel
theorem dX11_diffuses_5 : decode cX11_diffuses 5 = .ok (.invokevirtual 61, 3) := by decide +kernel
theorem dX11_diffuses_8 : decode cX11_diffuses 8 = .ok (.imul, 1) := by decide +kernel
theorem dX11_diffuses_9 : decode cX11_diffuses 9 = .ok (.if_icmp .ge 48, 3) := by decide +kernel
theorem dX11_diffuses_12 : decode cX11_diffuses 12 = .ok (.aload_n 0, 1) := by decide +kernel
theorem dX11_diffuses_13 : decode cX11_diffuses 13 = .ok (.getfield 53, 3) := by decide +kernel
theorem dX11_diffuses_16 : decode cX11_diffuses 16 = .ok (.iload_n 2, 1) := by decide +kernel
theorem dX11_diffuses_17 : decode cX11_diffuses 17 = .ok (.aload_n 0, 1) := by decide +kernel
theorem dX11_diffuses_18 : decode cX11_diffuses 18 = .ok (.iload_n 2, 1) := by decide +kernel
theorem dX11_diffuses_19 : decode cX11_diffuses 19 = .ok (.iconst 3, 1) := by decide +kernel
theorem dX11_diffuses_20 : decode cX11_diffuses 20 = .ok (.idiv, 1) := by decide +kernel
theorem dX11_diffuses_21 : decode cX11_diffuses 21 = .ok (.invokevirtual 65, 3) := by decide +kernel
theorem dX11_diffuses_24 : decode cX11_diffuses 24 = .ok (.ifCond .eq 25, 3) := by decide +kernel
theorem dX11_diffuses_27 : decode cX11_diffuses 27 = .ok (.bipush 16, 2) := by decide +kernel
theorem dX11_diffuses_29 : decode cX11_diffuses 29 = .ok (.aload_n 0, 1) := by decide +kernel
theorem dX11_diffuses_30 : decode cX11_diffuses 30 = .ok (.getfield 7, 3) := by decide +kernel
theorem dX11_diffuses_33 : decode cX11_diffuses 33 = .ok (.iconst 2, 1) := by decide +kernel
theorem dX11_diffuses_34 : decode cX11_diffuses 34 = .ok (.iload_n 2, 1) := by decide +kernel
theorem dX11_diffuses_35 : decode cX11_diffuses 35 = .ok (.iconst 3, 1) := by decide +kernel
theorem dX11_diffuses_36 : decode cX11_diffuses 36 = .ok (.idiv, 1) := by decide +kernel
theorem dX11_diffuses_37 : decode cX11_diffuses 37 = .ok (.iadd, 1) := by decide +kernel
theorem dX11_diffuses_38 : decode cX11_diffuses 38 = .ok (.iaload, 1) := by decide +kernel
theorem dX11_diffuses_39 : decode cX11_diffuses 39 = .ok (.iload_n 2, 1) := by decide +kernel
theorem dX11_diffuses_40 : decode cX11_diffuses 40 = .ok (.iconst 3, 1) := by decide +kernel
theorem dX11_diffuses_41 : decode cX11_diffuses 41 = .ok (.irem, 1) := by decide +kernel
theorem dX11_diffuses_42 : decode cX11_diffuses 42 = .ok (.invokestatic 69, 3) := by decide +kernel
theorem dX11_diffuses_45 : decode cX11_diffuses 45 = .ok (.imul, 1) := by decide +kernel
theorem dX11_diffuses_46 : decode cX11_diffuses 46 = .ok (.goto 4, 3) := by decide +kernel
theorem dX11_diffuses_49 : decode cX11_diffuses 49 = .ok (.iconst 0, 1) := by decide +kernel
theorem dX11_diffuses_50 : decode cX11_diffuses 50 = .ok (.iastore, 1) := by decide +kernel
theorem dX11_diffuses_51 : decode cX11_diffuses 51 = .ok (.iinc 2 1, 3) := by decide +kernel
theorem dX11_diffuses_54 : decode cX11_diffuses 54 = .ok (.goto (-52), 3) := by decide +kernel
theorem dX11_diffuses_57 : decode cX11_diffuses 57 = .ok (.iconst 0, 1) := by decide +kernel
theorem dX11_diffuses_58 : decode cX11_diffuses 58 = .ok (.istore_n 2, 1) := by decide +kernel
theorem dX11_diffuses_59 : decode cX11_diffuses 59 = .ok (.iload_n 2, 1) := by decide +kernel
theorem dX11_diffuses_60 : decode cX11_diffuses 60 = .ok (.aload_n 0, 1) := by decide +kernel
theorem dX11_diffuses_61 : decode cX11_diffuses 61 = .ok (.invokevirtual 61, 3) := by decide +kernel
theorem dX11_diffuses_64 : decode cX11_diffuses 64 = .ok (.if_icmp .ge 80, 3) := by decide +kernel
theorem dX11_diffuses_67 : decode cX11_diffuses 67 = .ok (.iload_n 2, 1) := by decide +kernel
theorem dX11_diffuses_68 : decode cX11_diffuses 68 = .ok (.aload_n 0, 1) := by decide +kernel
theorem dX11_diffuses_69 : decode cX11_diffuses 69 = .ok (.getfield 7, 3) := by decide +kernel
theorem dX11_diffuses_72 : decode cX11_diffuses 72 = .ok (.iconst 0, 1) := by decide +kernel
theorem dX11_diffuses_73 : decode cX11_diffuses 73 = .ok (.iaload, 1) := by decide +kernel
theorem dX11_diffuses_74 : decode cX11_diffuses 74 = .ok (.idiv, 1) := by decide +kernel
theorem dX11_diffuses_75 : decode cX11_diffuses 75 = .ok (.istore_n 3, 1) := by decide +kernel
theorem dX11_diffuses_76 : decode cX11_diffuses 76 = .ok (.iload_n 3, 1) := by decide +kernel
theorem dX11_diffuses_77 : decode cX11_diffuses 77 = .ok (.iconst 2, 1) := by decide +kernel
theorem dX11_diffuses_78 : decode cX11_diffuses 78 = .ok (.irem, 1) := by decide +kernel
theorem dX11_diffuses_79 : decode cX11_diffuses 79 = .ok (.ifCond .ne 14, 3) := by decide +kernel
theorem dX11_diffuses_82 : decode cX11_diffuses 82 = .ok (.iload_n 2, 1) := by decide +kernel
theorem dX11_diffuses_83 : decode cX11_diffuses 83 = .ok (.aload_n 0, 1) := by decide +kernel
theorem dX11_diffuses_84 : decode cX11_diffuses 84 = .ok (.getfield 7, 3) := by decide +kernel
theorem dX11_diffuses_87 : decode cX11_diffuses 87 = .ok (.iconst 0, 1) := by decide +kernel
theorem dX11_diffuses_88 : decode cX11_diffuses 88 = .ok (.iaload, 1) := by decide +kernel
theorem dX11_diffuses_89 : decode cX11_diffuses 89 = .ok (.irem, 1) := by decide +kernel
theorem dX11_diffuses_90 : decode cX11_diffuses 90 = .ok (.goto 20, 3) := by decide +kernel
theorem dX11_diffuses_93 : decode cX11_diffuses 93 = .ok (.aload_n 0, 1) := by decide +kernel
theorem dX11_diffuses_94 : decode cX11_diffuses 94 = .ok (.getfield 7, 3) := by decide +kernel
theorem dX11_diffuses_97 : decode cX11_diffuses 97 = .ok (.iconst 0, 1) := by decide +kernel
theorem dX11_diffuses_98 : decode cX11_diffuses 98 = .ok (.iaload, 1) := by decide +kernel
theorem dX11_diffuses_99 : decode cX11_diffuses 99 = .ok (.iconst 1, 1) := by decide +kernel
theorem dX11_diffuses_100 : decode cX11_diffuses 100 = .ok (.isub, 1) := by decide +kernel
theorem dX11_diffuses_101 : decode cX11_diffuses 101 = .ok (.iload_n 2, 1) := by decide +kernel
theorem dX11_diffuses_102 : decode cX11_diffuses 102 = .ok (.aload_n 0, 1) := by decide +kernel
theorem dX11_diffuses_103 : decode cX11_diffuses 103 = .ok (.getfield 7, 3) := by decide +kernel
theorem dX11_diffuses_106 : decode cX11_diffuses 106 = .ok (.iconst 0, 1) := by decide +kernel
theorem dX11_diffuses_107 : decode cX11_diffuses 107 = .ok (.iaload, 1) := by decide +kernel
theorem dX11_diffuses_108 : decode cX11_diffuses 108 = .ok (.irem, 1) := by decide +kernel
theorem dX11_diffuses_109 : decode cX11_diffuses 109 = .ok (.isub, 1) := by decide +kernel
theorem dX11_diffuses_110 : decode cX11_diffuses 110 = .ok (.istore 4, 2) := by decide +kernel
theorem dX11_diffuses_112 : decode cX11_diffuses 112 = .ok (.aload_n 0, 1) := by decide +kernel
theorem dX11_diffuses_113 : decode cX11_diffuses 113 = .ok (.iload_n 3, 1) := by decide +kernel
theorem dX11_diffuses_114 : decode cX11_diffuses 114 = .ok (.aload_n 0, 1) := by decide +kernel
theorem dX11_diffuses_115 : decode cX11_diffuses 115 = .ok (.getfield 7, 3) := by decide +kernel
theorem dX11_diffuses_118 : decode cX11_diffuses 118 = .ok (.iconst 0, 1) := by decide +kernel
theorem dX11_diffuses_119 : decode cX11_diffuses 119 = .ok (.iaload, 1) := by decide +kernel
theorem dX11_diffuses_120 : decode cX11_diffuses 120 = .ok (.imul, 1) := by decide +kernel
theorem dX11_diffuses_121 : decode cX11_diffuses 121 = .ok (.iload 4, 2) := by decide +kernel
theorem dX11_diffuses_123 : decode cX11_diffuses 123 = .ok (.iadd, 1) := by decide +kernel
theorem dX11_diffuses_124 : decode cX11_diffuses 124 = .ok (.invokevirtual 65, 3) := by decide +kernel
theorem dX11_diffuses_127 : decode cX11_diffuses 127 = .ok (.ifCond .eq 11, 3) := by decide +kernel
theorem dX11_diffuses_130 : decode cX11_diffuses 130 = .ok (.aload_n 0, 1) := by decide +kernel
theorem dX11_diffuses_131 : decode cX11_diffuses 131 = .ok (.iload 4, 2) := by decide +kernel
theorem dX11_diffuses_133 : decode cX11_diffuses 133 = .ok (.iload_n 3, 1) := by decide +kernel
theorem dX11_diffuses_134 : decode cX11_diffuses 134 = .ok (.iload_n 1, 1) := by decide +kernel
theorem dX11_diffuses_135 : decode cX11_diffuses 135 = .ok (.invokevirtual 254, 3) := by decide +kernel
theorem dX11_diffuses_138 : decode cX11_diffuses 138 = .ok (.iinc 2 1, 3) := by decide +kernel
theorem dX11_diffuses_141 : decode cX11_diffuses 141 = .ok (.goto (-82), 3) := by decide +kernel
theorem dX11_diffuses_144 : decode cX11_diffuses 144 = .ok (.return_, 1) := by decide +kernel
theorem dX11_map_0 : decode cX11_map 0 = .ok (.iload_n 1, 1) := by decide +kernel
theorem dX11_map_1 : decode cX11_map 1 = .ok (.iconst 0, 1) := by decide +kernel
theorem dX11_map_2 : decode cX11_map 2 = .ok (.iconst 3, 1) := by decide +kernel
theorem dX11_map_3 : decode cX11_map 3 = .ok (.invokestatic 57, 3) := by decide +kernel
theorem dX11_map_6 : decode cX11_map 6 = .ok (.ifCond .eq 13, 3) := by decide +kernel
theorem dX11_map_9 : decode cX11_map 9 = .ok (.iload_n 2, 1) := by decide +kernel
theorem dX11_map_10 : decode cX11_map 10 = .ok (.iconst 0, 1) := by decide +kernel
theorem dX11_map_11 : decode cX11_map 11 = .ok (.bipush 64, 2) := by decide +kernel
theorem dX11_map_13 : decode cX11_map 13 = .ok (.invokestatic 57, 3) := by decide +kernel
theorem dX11_map_16 : decode cX11_map 16 = .ok (.ifCond .ne 6, 3) := by decide +kernel
theorem dX11_map_19 : decode cX11_map 19 = .ok (.bipush (-2), 2) := by decide +kernel
theorem dX11_map_21 : decode cX11_map 21 = .ok (.ireturn, 1) := by decide +kernel
theorem dX11_map_22 : decode cX11_map 22 = .ok (.aload_n 0, 1) := by decide +kernel
theorem dX11_map_23 : decode cX11_map 23 = .ok (.getfield 7, 3) := by decide +kernel
theorem dX11_map_26 : decode cX11_map 26 = .ok (.sipush 258, 3) := by decide +kernel
theorem dX11_map_29 : decode cX11_map 29 = .ok (.iaload, 1) := by decide +kernel
theorem dX11_map_30 : decode cX11_map 30 = .ok (.ifCond .ne 6, 3) := by decide +kernel
theorem dX11_map_33 : decode cX11_map 33 = .ok (.bipush (-3), 2) := by decide +kernel
theorem dX11_map_35 : decode cX11_map 35 = .ok (.ireturn, 1) := by decide +kernel
theorem dX11_map_36 : decode cX11_map 36 = .ok (.aload_n 0, 1) := by decide +kernel
theorem dX11_map_37 : decode cX11_map 37 = .ok (.iconst 1, 1) := by decide +kernel
theorem dX11_map_38 : decode cX11_map 38 = .ok (.invokevirtual 83, 3) := by decide +kernel
theorem dX11_map_41 : decode cX11_map 41 = .ok (.aload_n 0, 1) := by decide +kernel
theorem dX11_map_42 : decode cX11_map 42 = .ok (.getfield 7, 3) := by decide +kernel
theorem dX11_map_45 : decode cX11_map 45 = .ok (.sipush 292, 3) := by decide +kernel
theorem dX11_map_48 : decode cX11_map 48 = .ok (.iconst 1, 1) := by decide +kernel
theorem dX11_map_49 : decode cX11_map 49 = .ok (.iastore, 1) := by decide +kernel
theorem dX11_map_50 : decode cX11_map 50 = .ok (.iconst 0, 1) := by decide +kernel
theorem dX11_map_51 : decode cX11_map 51 = .ok (.istore_n 3, 1) := by decide +kernel
theorem dX11_map_52 : decode cX11_map 52 = .ok (.iload_n 3, 1) := by decide +kernel
theorem dX11_map_53 : decode cX11_map 53 = .ok (.aload_n 0, 1) := by decide +kernel
theorem dX11_map_54 : decode cX11_map 54 = .ok (.invokevirtual 61, 3) := by decide +kernel
theorem dX11_map_57 : decode cX11_map 57 = .ok (.if_icmp .ge 69, 3) := by decide +kernel
theorem dX11_map_60 : decode cX11_map 60 = .ok (.aload_n 0, 1) := by decide +kernel
theorem dX11_map_61 : decode cX11_map 61 = .ok (.iload_n 3, 1) := by decide +kernel
theorem dX11_map_62 : decode cX11_map 62 = .ok (.invokevirtual 65, 3) := by decide +kernel
theorem dX11_map_65 : decode cX11_map 65 = .ok (.ifCond .eq 12, 3) := by decide +kernel
theorem dX11_map_68 : decode cX11_map 68 = .ok (.iload_n 1, 1) := by decide +kernel
theorem dX11_map_69 : decode cX11_map 69 = .ok (.iconst 2, 1) := by decide +kernel
theorem dX11_map_70 : decode cX11_map 70 = .ok (.if_icmp .ge 7, 3) := by decide +kernel
theorem dX11_map_73 : decode cX11_map 73 = .ok (.iconst 1, 1) := by decide +kernel
theorem dX11_map_74 : decode cX11_map 74 = .ok (.goto 4, 3) := by decide +kernel
theorem dX11_map_77 : decode cX11_map 77 = .ok (.iconst 0, 1) := by decide +kernel
theorem dX11_map_78 : decode cX11_map 78 = .ok (.istore 4, 2) := by decide +kernel
theorem dX11_map_80 : decode cX11_map 80 = .ok (.aload_n 0, 1) := by decide +kernel
theorem dX11_map_81 : decode cX11_map 81 = .ok (.getfield 7, 3) := by decide +kernel
theorem dX11_map_84 : decode cX11_map 84 = .ok (.sipush 293, 3) := by decide +kernel
theorem dX11_map_87 : decode cX11_map 87 = .ok (.iload_n 3, 1) := by decide +kernel
theorem dX11_map_88 : decode cX11_map 88 = .ok (.iadd, 1) := by decide +kernel
theorem dX11_map_89 : decode cX11_map 89 = .ok (.iload 4, 2) := by decide +kernel
theorem dX11_map_91 : decode cX11_map 91 = .ok (.ifCond .eq 20, 3) := by decide +kernel
theorem dX11_map_94 : decode cX11_map 94 = .ok (.aload_n 0, 1) := by decide +kernel
theorem dX11_map_95 : decode cX11_map 95 = .ok (.iload_n 3, 1) := by decide +kernel
theorem dX11_map_96 : decode cX11_map 96 = .ok (.iload_n 1, 1) := by decide +kernel
theorem dX11_map_97 : decode cX11_map 97 = .ok (.ifCond .ne 7, 3) := by decide +kernel
theorem dX11_map_100 : decode cX11_map 100 = .ok (.iconst 0, 1) := by decide +kernel
theorem dX11_map_101 : decode cX11_map 101 = .ok (.goto 4, 3) := by decide +kernel
theorem dX11_map_104 : decode cX11_map 104 = .ok (.iload_n 2, 1) := by decide +kernel
theorem dX11_map_105 : decode cX11_map 105 = .ok (.invokevirtual 258, 3) := by decide +kernel
theorem dX11_map_108 : decode cX11_map 108 = .ok (.goto 11, 3) := by decide +kernel
theorem dX11_map_111 : decode cX11_map 111 = .ok (.aload_n 0, 1) := by decide +kernel
theorem dX11_map_112 : decode cX11_map 112 = .ok (.getfield 7, 3) := by decide +kernel
theorem dX11_map_115 : decode cX11_map 115 = .ok (.sipush 258, 3) := by decide +kernel
theorem dX11_map_118 : decode cX11_map 118 = .ok (.iaload, 1) := by decide +kernel
theorem dX11_map_119 : decode cX11_map 119 = .ok (.iastore, 1) := by decide +kernel
theorem dX11_map_120 : decode cX11_map 120 = .ok (.iinc 3 1, 3) := by decide +kernel
theorem dX11_map_123 : decode cX11_map 123 = .ok (.goto (-71), 3) := by decide +kernel
theorem dX11_map_126 : decode cX11_map 126 = .ok (.iload_n 1, 1) := by decide +kernel
theorem dX11_map_127 : decode cX11_map 127 = .ok (.iconst 1, 1) := by decide +kernel
theorem dX11_map_128 : decode cX11_map 128 = .ok (.if_icmp .le 8, 3) := by decide +kernel
theorem dX11_map_131 : decode cX11_map 131 = .ok (.aload_n 0, 1) := by decide +kernel
theorem dX11_map_132 : decode cX11_map 132 = .ok (.iload_n 1, 1) := by decide +kernel
theorem dX11_map_133 : decode cX11_map 133 = .ok (.invokevirtual 261, 3) := by decide +kernel
theorem dX11_map_136 : decode cX11_map 136 = .ok (.iconst 0, 1) := by decide +kernel
theorem dX11_map_137 : decode cX11_map 137 = .ok (.istore_n 3, 1) := by decide +kernel
theorem dX11_map_138 : decode cX11_map 138 = .ok (.iconst 0, 1) := by decide +kernel
theorem dX11_map_139 : decode cX11_map 139 = .ok (.istore 4, 2) := by decide +kernel
theorem dX11_map_141 : decode cX11_map 141 = .ok (.iload 4, 2) := by decide +kernel
theorem dX11_map_143 : decode cX11_map 143 = .ok (.aload_n 0, 1) := by decide +kernel
theorem dX11_map_144 : decode cX11_map 144 = .ok (.getfield 7, 3) := by decide +kernel
theorem dX11_map_147 : decode cX11_map 147 = .ok (.sipush 258, 3) := by decide +kernel
theorem dX11_map_150 : decode cX11_map 150 = .ok (.iaload, 1) := by decide +kernel
theorem dX11_map_151 : decode cX11_map 151 = .ok (.if_icmp .ge 26, 3) := by decide +kernel
theorem dX11_map_154 : decode cX11_map 154 = .ok (.iload_n 3, 1) := by decide +kernel
theorem dX11_map_155 : decode cX11_map 155 = .ok (.aload_n 0, 1) := by decide +kernel
theorem dX11_map_156 : decode cX11_map 156 = .ok (.iload 4, 2) := by decide +kernel
theorem dX11_map_158 : decode cX11_map 158 = .ok (.invokevirtual 152, 3) := by decide +kernel
theorem dX11_map_161 : decode cX11_map 161 = .ok (.ifCond .le 7, 3) := by decide +kernel
theorem dX11_map_164 : decode cX11_map 164 = .ok (.iconst 1, 1) := by decide +kernel
theorem dX11_map_165 : decode cX11_map 165 = .ok (.goto 4, 3) := by decide +kernel
theorem dX11_map_168 : decode cX11_map 168 = .ok (.iconst 0, 1) := by decide +kernel
theorem dX11_map_169 : decode cX11_map 169 = .ok (.iadd, 1) := by decide +kernel
theorem dX11_map_170 : decode cX11_map 170 = .ok (.istore_n 3, 1) := by decide +kernel
theorem dX11_map_171 : decode cX11_map 171 = .ok (.iinc 4 1, 3) := by decide +kernel
theorem dX11_map_174 : decode cX11_map 174 = .ok (.goto (-33), 3) := by decide +kernel
theorem dX11_map_177 : decode cX11_map 177 = .ok (.iload_n 3, 1) := by decide +kernel
theorem dX11_map_178 : decode cX11_map 178 = .ok (.ireturn, 1) := by decide +kernel
theorem dX11_index_0 : decode cX11_index 0 = .ok (.aload_n 0, 1) := by decide +kernel
theorem dX11_index_1 : decode cX11_index 1 = .ok (.iload_n 1, 1) := by decide +kernel
theorem dX11_index_2 : decode cX11_index 2 = .ok (.iload_n 2, 1) := by decide +kernel
theorem dX11_index_3 : decode cX11_index 3 = .ok (.invokevirtual 87, 3) := by decide +kernel
theorem dX11_index_6 : decode cX11_index 6 = .ok (.ifCond .ne 6, 3) := by decide +kernel
theorem dX11_index_9 : decode cX11_index 9 = .ok (.bipush (-2), 2) := by decide +kernel
theorem dX11_index_11 : decode cX11_index 11 = .ok (.ireturn, 1) := by decide +kernel
theorem dX11_index_12 : decode cX11_index 12 = .ok (.aload_n 0, 1) := by decide +kernel
theorem dX11_index_13 : decode cX11_index 13 = .ok (.getfield 7, 3) := by decide +kernel
theorem dX11_index_16 : decode cX11_index 16 = .ok (.sipush 292, 3) := by decide +kernel
theorem dX11_index_19 : decode cX11_index 19 = .ok (.iaload, 1) := by decide +kernel
theorem dX11_index_20 : decode cX11_index 20 = .ok (.iconst 1, 1) := by decide +kernel
theorem dX11_index_21 : decode cX11_index 21 = .ok (.if_icmp .ne 25, 3) := by decide +kernel
theorem dX11_index_24 : decode cX11_index 24 = .ok (.aload_n 0, 1) := by decide +kernel
theorem dX11_index_25 : decode cX11_index 25 = .ok (.getfield 7, 3) := by decide +kernel
theorem dX11_index_28 : decode cX11_index 28 = .ok (.sipush 293, 3) := by decide +kernel
theorem dX11_index_31 : decode cX11_index 31 = .ok (.iload_n 2, 1) := by decide +kernel
theorem dX11_index_32 : decode cX11_index 32 = .ok (.aload_n 0, 1) := by decide +kernel
theorem dX11_index_33 : decode cX11_index 33 = .ok (.getfield 7, 3) := by decide +kernel
theorem dX11_index_36 : decode cX11_index 36 = .ok (.iconst 0, 1) := by decide +kernel
theorem dX11_index_37 : decode cX11_index 37 = .ok (.iaload, 1) := by decide +kernel
theorem dX11_index_38 : decode cX11_index 38 = .ok (.imul, 1) := by decide +kernel
theorem dX11_index_39 : decode cX11_index 39 = .ok (.iadd, 1) := by decide +kernel
theorem dX11_index_40 : decode cX11_index 40 = .ok (.iload_n 1, 1) := by decide +kernel
theorem dX11_index_41 : decode cX11_index 41 = .ok (.iadd, 1) := by decide +kernel
theorem dX11_index_42 : decode cX11_index 42 = .ok (.iaload, 1) := by decide +kernel
theorem dX11_index_43 : decode cX11_index 43 = .ok (.goto 5, 3) := by decide +kernel
theorem dX11_index_46 : decode cX11_index 46 = .ok (.bipush (-3), 2) := by decide +kernel
theorem dX11_index_48 : decode cX11_index 48 = .ok (.ireturn, 1) := by decide +kernel
theorem dX11_errorOf_0 : decode cX11_errorOf 0 = .ok (.aload_n 0, 1) := by decide +kernel
theorem dX11_errorOf_1 : decode cX11_errorOf 1 = .ok (.iload_n 1, 1) := by decide +kernel
theorem dX11_errorOf_2 : decode cX11_errorOf 2 = .ok (.invokevirtual 65, 3) := by decide +kernel
theorem dX11_errorOf_5 : decode cX11_errorOf 5 = .ok (.ifCond .eq 37, 3) := by decide +kernel
theorem dX11_errorOf_8 : decode cX11_errorOf 8 = .ok (.aload_n 0, 1) := by decide +kernel
theorem dX11_errorOf_9 : decode cX11_errorOf 9 = .ok (.aload_n 0, 1) := by decide +kernel
theorem dX11_errorOf_10 : decode cX11_errorOf 10 = .ok (.getfield 7, 3) := by decide +kernel
theorem dX11_errorOf_13 : decode cX11_errorOf 13 = .ok (.iconst 2, 1) := by decide +kernel
theorem dX11_errorOf_14 : decode cX11_errorOf 14 = .ok (.iload_n 1, 1) := by decide +kernel
theorem dX11_errorOf_15 : decode cX11_errorOf 15 = .ok (.iadd, 1) := by decide +kernel
theorem dX11_errorOf_16 : decode cX11_errorOf 16 = .ok (.iaload, 1) := by decide +kernel
theorem dX11_errorOf_17 : decode cX11_errorOf 17 = .ok (.aload_n 0, 1) := by decide +kernel
theorem dX11_errorOf_18 : decode cX11_errorOf 18 = .ok (.getfield 7, 3) := by decide +kernel
theorem dX11_errorOf_21 : decode cX11_errorOf 21 = .ok (.sipush 259, 3) := by decide +kernel
theorem dX11_errorOf_24 : decode cX11_errorOf 24 = .ok (.aload_n 0, 1) := by decide +kernel
theorem dX11_errorOf_25 : decode cX11_errorOf 25 = .ok (.getfield 7, 3) := by decide +kernel
theorem dX11_errorOf_28 : decode cX11_errorOf 28 = .ok (.sipush 293, 3) := by decide +kernel
theorem dX11_errorOf_31 : decode cX11_errorOf 31 = .ok (.iload_n 1, 1) := by decide +kernel
theorem dX11_errorOf_32 : decode cX11_errorOf 32 = .ok (.iadd, 1) := by decide +kernel
theorem dX11_errorOf_33 : decode cX11_errorOf 33 = .ok (.iaload, 1) := by decide +kernel
theorem dX11_errorOf_34 : decode cX11_errorOf 34 = .ok (.iadd, 1) := by decide +kernel
theorem dX11_errorOf_35 : decode cX11_errorOf 35 = .ok (.iaload, 1) := by decide +kernel
theorem dX11_errorOf_36 : decode cX11_errorOf 36 = .ok (.invokevirtual 73, 3) := by decide +kernel
theorem dX11_errorOf_39 : decode cX11_errorOf 39 = .ok (.goto 4, 3) := by decide +kernel
theorem dX11_errorOf_42 : decode cX11_errorOf 42 = .ok (.iconst (-1), 1) := by decide +kernel
theorem dX11_errorOf_43 : decode cX11_errorOf 43 = .ok (.ireturn, 1) := by decide +kernel
theorem dX11_error_0 : decode cX11_error 0 = .ok (.aload_n 0, 1) := by decide +kernel
theorem dX11_error_1 : decode cX11_error 1 = .ok (.getfield 7, 3) := by decide +kernel
theorem dX11_error_4 : decode cX11_error 4 = .ok (.sipush 292, 3) := by decide +kernel
theorem dX11_error_7 : decode cX11_error 7 = .ok (.iaload, 1) := by decide +kernel
theorem dX11_error_8 : decode cX11_error 8 = .ok (.ifCond .ne 6, 3) := by decide +kernel
theorem dX11_error_11 : decode cX11_error 11 = .ok (.bipush (-3), 2) := by decide +kernel
theorem dX11_error_13 : decode cX11_error 13 = .ok (.ireturn, 1) := by decide +kernel
theorem dX11_error_14 : decode cX11_error 14 = .ok (.iconst 0, 1) := by decide +kernel
theorem dX11_error_15 : decode cX11_error 15 = .ok (.istore_n 1, 1) := by decide +kernel
theorem dX11_error_16 : decode cX11_error 16 = .ok (.iconst 0, 1) := by decide +kernel
theorem dX11_error_17 : decode cX11_error 17 = .ok (.istore_n 2, 1) := by decide +kernel
theorem dX11_error_18 : decode cX11_error 18 = .ok (.iload_n 2, 1) := by decide +kernel
theorem dX11_error_19 : decode cX11_error 19 = .ok (.aload_n 0, 1) := by decide +kernel
theorem dX11_error_20 : decode cX11_error 20 = .ok (.invokevirtual 61, 3) := by decide +kernel
theorem dX11_error_23 : decode cX11_error 23 = .ok (.if_icmp .ge 29, 3) := by decide +kernel
theorem dX11_error_26 : decode cX11_error 26 = .ok (.iload_n 1, 1) := by decide +kernel
theorem dX11_error_27 : decode cX11_error 27 = .ok (.aload_n 0, 1) := by decide +kernel
theorem dX11_error_28 : decode cX11_error 28 = .ok (.iload_n 2, 1) := by decide +kernel
theorem dX11_error_29 : decode cX11_error 29 = .ok (.invokevirtual 65, 3) := by decide +kernel
theorem dX11_error_32 : decode cX11_error 32 = .ok (.ifCond .eq 11, 3) := by decide +kernel
theorem dX11_error_35 : decode cX11_error 35 = .ok (.aload_n 0, 1) := by decide +kernel
theorem dX11_error_36 : decode cX11_error 36 = .ok (.iload_n 2, 1) := by decide +kernel
theorem dX11_error_37 : decode cX11_error 37 = .ok (.invokevirtual 264, 3) := by decide +kernel
theorem dX11_error_40 : decode cX11_error 40 = .ok (.goto 4, 3) := by decide +kernel
theorem dX11_error_43 : decode cX11_error 43 = .ok (.iconst 0, 1) := by decide +kernel
theorem dX11_error_44 : decode cX11_error 44 = .ok (.iadd, 1) := by decide +kernel
theorem dX11_error_45 : decode cX11_error 45 = .ok (.istore_n 1, 1) := by decide +kernel
theorem dX11_error_46 : decode cX11_error 46 = .ok (.iinc 2 1, 3) := by decide +kernel
theorem dX11_error_49 : decode cX11_error 49 = .ok (.goto (-31), 3) := by decide +kernel
theorem dX11_error_52 : decode cX11_error 52 = .ok (.iload_n 1, 1) := by decide +kernel
theorem dX11_error_53 : decode cX11_error 53 = .ok (.ireturn, 1) := by decide +kernel
theorem dX11_worst_0 : decode cX11_worst 0 = .ok (.aload_n 0, 1) := by decide +kernel
theorem dX11_worst_1 : decode cX11_worst 1 = .ok (.getfield 7, 3) := by decide +kernel
theorem dX11_worst_4 : decode cX11_worst 4 = .ok (.sipush 292, 3) := by decide +kernel
theorem dX11_worst_7 : decode cX11_worst 7 = .ok (.iaload, 1) := by decide +kernel
theorem dX11_worst_8 : decode cX11_worst 8 = .ok (.ifCond .ne 6, 3) := by decide +kernel
theorem dX11_worst_11 : decode cX11_worst 11 = .ok (.bipush (-3), 2) := by decide +kernel
theorem dX11_worst_13 : decode cX11_worst 13 = .ok (.ireturn, 1) := by decide +kernel
theorem dX11_worst_14 : decode cX11_worst 14 = .ok (.iconst (-1), 1) := by decide +kernel
theorem dX11_worst_15 : decode cX11_worst 15 = .ok (.istore_n 1, 1) := by decide +kernel
theorem dX11_worst_16 : decode cX11_worst 16 = .ok (.iconst 0, 1) := by decide +kernel
theorem dX11_worst_17 : decode cX11_worst 17 = .ok (.istore_n 2, 1) := by decide +kernel
theorem dX11_worst_18 : decode cX11_worst 18 = .ok (.iload_n 2, 1) := by decide +kernel
theorem dX11_worst_19 : decode cX11_worst 19 = .ok (.aload_n 0, 1) := by decide +kernel
theorem dX11_worst_20 : decode cX11_worst 20 = .ok (.invokevirtual 61, 3) := by decide +kernel
theorem dX11_worst_23 : decode cX11_worst 23 = .ok (.if_icmp .ge 41, 3) := by decide +kernel
theorem dX11_worst_26 : decode cX11_worst 26 = .ok (.aload_n 0, 1) := by decide +kernel
theorem dX11_worst_27 : decode cX11_worst 27 = .ok (.iload_n 2, 1) := by decide +kernel
theorem dX11_worst_28 : decode cX11_worst 28 = .ok (.invokevirtual 65, 3) := by decide +kernel
theorem dX11_worst_31 : decode cX11_worst 31 = .ok (.ifCond .eq 25, 3) := by decide +kernel
theorem dX11_worst_34 : decode cX11_worst 34 = .ok (.iload_n 1, 1) := by decide +kernel
theorem dX11_worst_35 : decode cX11_worst 35 = .ok (.iconst (-1), 1) := by decide +kernel
theorem dX11_worst_36 : decode cX11_worst 36 = .ok (.if_icmp .eq 16, 3) := by decide +kernel
theorem dX11_worst_39 : decode cX11_worst 39 = .ok (.aload_n 0, 1) := by decide +kernel
theorem dX11_worst_40 : decode cX11_worst 40 = .ok (.iload_n 2, 1) := by decide +kernel
theorem dX11_worst_41 : decode cX11_worst 41 = .ok (.invokevirtual 264, 3) := by decide +kernel
theorem dX11_worst_44 : decode cX11_worst 44 = .ok (.aload_n 0, 1) := by decide +kernel
theorem dX11_worst_45 : decode cX11_worst 45 = .ok (.iload_n 1, 1) := by decide +kernel
theorem dX11_worst_46 : decode cX11_worst 46 = .ok (.invokevirtual 264, 3) := by decide +kernel
theorem dX11_worst_49 : decode cX11_worst 49 = .ok (.if_icmp .le 7, 3) := by decide +kernel
theorem dX11_worst_52 : decode cX11_worst 52 = .ok (.iload_n 2, 1) := by decide +kernel
theorem dX11_worst_53 : decode cX11_worst 53 = .ok (.goto 4, 3) := by decide +kernel
theorem dX11_worst_56 : decode cX11_worst 56 = .ok (.iload_n 1, 1) := by decide +kernel
theorem dX11_worst_57 : decode cX11_worst 57 = .ok (.istore_n 1, 1) := by decide +kernel
theorem dX11_worst_58 : decode cX11_worst 58 = .ok (.iinc 2 1, 3) := by decide +kernel
theorem dX11_worst_61 : decode cX11_worst 61 = .ok (.goto (-43), 3) := by decide +kernel
theorem dX11_worst_64 : decode cX11_worst 64 = .ok (.iload_n 1, 1) := by decide +kernel
theorem dX11_worst_65 : decode cX11_worst 65 = .ok (.iconst (-1), 1) := by decide +kernel
theorem dX11_worst_66 : decode cX11_worst 66 = .ok (.if_icmp .ne 7, 3) := by decide +kernel
theorem dX11_worst_69 : decode cX11_worst 69 = .ok (.iconst (-1), 1) := by decide +kernel
theorem dX11_worst_70 : decode cX11_worst 70 = .ok (.goto 23, 3) := by decide +kernel
theorem dX11_worst_73 : decode cX11_worst 73 = .ok (.bipush 16, 2) := by decide +kernel
theorem dX11_worst_75 : decode cX11_worst 75 = .ok (.iload_n 1, 1) := by decide +kernel
theorem dX11_worst_76 : decode cX11_worst 76 = .ok (.aload_n 0, 1) := by decide +kernel
theorem dX11_worst_77 : decode cX11_worst 77 = .ok (.getfield 7, 3) := by decide +kernel
theorem dX11_worst_80 : decode cX11_worst 80 = .ok (.iconst 0, 1) := by decide +kernel
theorem dX11_worst_81 : decode cX11_worst 81 = .ok (.iaload, 1) := by decide +kernel
theorem dX11_worst_82 : decode cX11_worst 82 = .ok (.idiv, 1) := by decide +kernel
theorem dX11_worst_83 : decode cX11_worst 83 = .ok (.imul, 1) := by decide +kernel
theorem dX11_worst_84 : decode cX11_worst 84 = .ok (.iload_n 1, 1) := by decide +kernel
theorem dX11_worst_85 : decode cX11_worst 85 = .ok (.aload_n 0, 1) := by decide +kernel
theorem dX11_worst_86 : decode cX11_worst 86 = .ok (.getfield 7, 3) := by decide +kernel
theorem dX11_worst_89 : decode cX11_worst 89 = .ok (.iconst 0, 1) := by decide +kernel
theorem dX11_worst_90 : decode cX11_worst 90 = .ok (.iaload, 1) := by decide +kernel
theorem dX11_worst_91 : decode cX11_worst 91 = .ok (.irem, 1) := by decide +kernel
theorem dX11_worst_92 : decode cX11_worst 92 = .ok (.iadd, 1) := by decide +kernel
theorem dX11_worst_93 : decode cX11_worst 93 = .ok (.ireturn, 1) := by decide +kernel
theorem dX11_bitsOf_0 : decode cX11_bitsOf 0 = .ok (.fload_n 0, 1) := by decide +kernel
theorem dX11_bitsOf_1 : decode cX11_bitsOf 1 = .ok (.fconst 0, 1) := by decide +kernel
theorem dX11_bitsOf_2 : decode cX11_bitsOf 2 = .ok (.fcmp .l, 1) := by decide +kernel
theorem dX11_bitsOf_3 : decode cX11_bitsOf 3 = .ok (.ifCond .ne 5, 3) := by decide +kernel
theorem dX11_bitsOf_6 : decode cX11_bitsOf 6 = .ok (.iconst 0, 1) := by decide +kernel
theorem dX11_bitsOf_7 : decode cX11_bitsOf 7 = .ok (.ireturn, 1) := by decide +kernel
theorem dX11_bitsOf_8 : decode cX11_bitsOf 8 = .ok (.iconst 0, 1) := by decide +kernel
theorem dX11_bitsOf_9 : decode cX11_bitsOf 9 = .ok (.istore_n 1, 1) := by decide +kernel
theorem dX11_bitsOf_10 : decode cX11_bitsOf 10 = .ok (.fload_n 0, 1) := by decide +kernel
theorem dX11_bitsOf_11 : decode cX11_bitsOf 11 = .ok (.fstore_n 2, 1) := by decide +kernel
theorem dX11_bitsOf_12 : decode cX11_bitsOf 12 = .ok (.fload_n 2, 1) := by decide +kernel
theorem dX11_bitsOf_13 : decode cX11_bitsOf 13 = .ok (.fconst 2, 1) := by decide +kernel
theorem dX11_bitsOf_14 : decode cX11_bitsOf 14 = .ok (.fcmp .l, 1) := by decide +kernel
theorem dX11_bitsOf_15 : decode cX11_bitsOf 15 = .ok (.ifCond .lt 13, 3) := by decide +kernel
theorem dX11_bitsOf_18 : decode cX11_bitsOf 18 = .ok (.fload_n 2, 1) := by decide +kernel
theorem dX11_bitsOf_19 : decode cX11_bitsOf 19 = .ok (.fconst 2, 1) := by decide +kernel
theorem dX11_bitsOf_20 : decode cX11_bitsOf 20 = .ok (.fdiv, 1) := by decide +kernel
theorem dX11_bitsOf_21 : decode cX11_bitsOf 21 = .ok (.fstore_n 2, 1) := by decide +kernel
theorem dX11_bitsOf_22 : decode cX11_bitsOf 22 = .ok (.iinc 1 1, 3) := by decide +kernel
theorem dX11_bitsOf_25 : decode cX11_bitsOf 25 = .ok (.goto (-13), 3) := by decide +kernel
theorem dX11_bitsOf_28 : decode cX11_bitsOf 28 = .ok (.fload_n 2, 1) := by decide +kernel
theorem dX11_bitsOf_29 : decode cX11_bitsOf 29 = .ok (.fconst 1, 1) := by decide +kernel
theorem dX11_bitsOf_30 : decode cX11_bitsOf 30 = .ok (.fcmp .g, 1) := by decide +kernel
theorem dX11_bitsOf_31 : decode cX11_bitsOf 31 = .ok (.ifCond .ge 13, 3) := by decide +kernel
theorem dX11_bitsOf_34 : decode cX11_bitsOf 34 = .ok (.fload_n 2, 1) := by decide +kernel
theorem dX11_bitsOf_35 : decode cX11_bitsOf 35 = .ok (.fconst 2, 1) := by decide +kernel
theorem dX11_bitsOf_36 : decode cX11_bitsOf 36 = .ok (.fmul, 1) := by decide +kernel
theorem dX11_bitsOf_37 : decode cX11_bitsOf 37 = .ok (.fstore_n 2, 1) := by decide +kernel
theorem dX11_bitsOf_38 : decode cX11_bitsOf 38 = .ok (.iinc 1 (-1), 3) := by decide +kernel
theorem dX11_bitsOf_41 : decode cX11_bitsOf 41 = .ok (.goto (-13), 3) := by decide +kernel
theorem dX11_bitsOf_44 : decode cX11_bitsOf 44 = .ok (.iload_n 1, 1) := by decide +kernel
theorem dX11_bitsOf_45 : decode cX11_bitsOf 45 = .ok (.bipush 126, 2) := by decide +kernel
theorem dX11_bitsOf_47 : decode cX11_bitsOf 47 = .ok (.iadd, 1) := by decide +kernel
theorem dX11_bitsOf_48 : decode cX11_bitsOf 48 = .ok (.bipush 23, 2) := by decide +kernel
theorem dX11_bitsOf_50 : decode cX11_bitsOf 50 = .ok (.ishl, 1) := by decide +kernel
theorem dX11_bitsOf_51 : decode cX11_bitsOf 51 = .ok (.fload_n 2, 1) := by decide +kernel
theorem dX11_bitsOf_52 : decode cX11_bitsOf 52 = .ok (.ldc_w 267, 3) := by decide +kernel
theorem dX11_bitsOf_55 : decode cX11_bitsOf 55 = .ok (.fmul, 1) := by decide +kernel
theorem dX11_bitsOf_56 : decode cX11_bitsOf 56 = .ok (.f2i, 1) := by decide +kernel
theorem dX11_bitsOf_57 : decode cX11_bitsOf 57 = .ok (.iadd, 1) := by decide +kernel
theorem dX11_bitsOf_58 : decode cX11_bitsOf 58 = .ok (.ireturn, 1) := by decide +kernel
theorem dX11_meanError_0 : decode cX11_meanError 0 = .ok (.aload_n 0, 1) := by decide +kernel
theorem dX11_meanError_1 : decode cX11_meanError 1 = .ok (.getfield 7, 3) := by decide +kernel
theorem dX11_meanError_4 : decode cX11_meanError 4 = .ok (.sipush 292, 3) := by decide +kernel
theorem dX11_meanError_7 : decode cX11_meanError 7 = .ok (.iaload, 1) := by decide +kernel
theorem dX11_meanError_8 : decode cX11_meanError 8 = .ok (.ifCond .ne 6, 3) := by decide +kernel
theorem dX11_meanError_11 : decode cX11_meanError 11 = .ok (.bipush (-3), 2) := by decide +kernel
theorem dX11_meanError_13 : decode cX11_meanError 13 = .ok (.ireturn, 1) := by decide +kernel
theorem dX11_meanError_14 : decode cX11_meanError 14 = .ok (.aload_n 0, 1) := by decide +kernel
theorem dX11_meanError_15 : decode cX11_meanError 15 = .ok (.invokevirtual 112, 3) := by decide +kernel
theorem dX11_meanError_18 : decode cX11_meanError 18 = .ok (.istore_n 1, 1) := by decide +kernel
theorem dX11_meanError_19 : decode cX11_meanError 19 = .ok (.iload_n 1, 1) := by decide +kernel
theorem dX11_meanError_20 : decode cX11_meanError 20 = .ok (.ifCond .ne 7, 3) := by decide +kernel
theorem dX11_meanError_23 : decode cX11_meanError 23 = .ok (.iconst (-1), 1) := by decide +kernel
theorem dX11_meanError_24 : decode cX11_meanError 24 = .ok (.goto 14, 3) := by decide +kernel
theorem dX11_meanError_27 : decode cX11_meanError 27 = .ok (.aload_n 0, 1) := by decide +kernel
theorem dX11_meanError_28 : decode cX11_meanError 28 = .ok (.invokevirtual 268, 3) := by decide +kernel
theorem dX11_meanError_31 : decode cX11_meanError 31 = .ok (.i2f, 1) := by decide +kernel
theorem dX11_meanError_32 : decode cX11_meanError 32 = .ok (.iload_n 1, 1) := by decide +kernel
theorem dX11_meanError_33 : decode cX11_meanError 33 = .ok (.i2f, 1) := by decide +kernel
theorem dX11_meanError_34 : decode cX11_meanError 34 = .ok (.fdiv, 1) := by decide +kernel
theorem dX11_meanError_35 : decode cX11_meanError 35 = .ok (.invokestatic 271, 3) := by decide +kernel
theorem dX11_meanError_38 : decode cX11_meanError 38 = .ok (.ireturn, 1) := by decide +kernel
theorem dX11_runs_0 : decode cX11_runs 0 = .ok (.aload_n 0, 1) := by decide +kernel
theorem dX11_runs_1 : decode cX11_runs 1 = .ok (.getfield 7, 3) := by decide +kernel
theorem dX11_runs_4 : decode cX11_runs 4 = .ok (.sipush 292, 3) := by decide +kernel
theorem dX11_runs_7 : decode cX11_runs 7 = .ok (.iaload, 1) := by decide +kernel
theorem dX11_runs_8 : decode cX11_runs 8 = .ok (.ifCond .ne 6, 3) := by decide +kernel
theorem dX11_runs_11 : decode cX11_runs 11 = .ok (.bipush (-3), 2) := by decide +kernel
theorem dX11_runs_13 : decode cX11_runs 13 = .ok (.ireturn, 1) := by decide +kernel
theorem dX11_runs_14 : decode cX11_runs 14 = .ok (.iconst 1, 1) := by decide +kernel
theorem dX11_runs_15 : decode cX11_runs 15 = .ok (.istore_n 1, 1) := by decide +kernel
theorem dX11_runs_16 : decode cX11_runs 16 = .ok (.iconst 1, 1) := by decide +kernel
theorem dX11_runs_17 : decode cX11_runs 17 = .ok (.istore_n 2, 1) := by decide +kernel
theorem dX11_runs_18 : decode cX11_runs 18 = .ok (.iload_n 2, 1) := by decide +kernel
theorem dX11_runs_19 : decode cX11_runs 19 = .ok (.aload_n 0, 1) := by decide +kernel
theorem dX11_runs_20 : decode cX11_runs 20 = .ok (.invokevirtual 61, 3) := by decide +kernel
theorem dX11_runs_23 : decode cX11_runs 23 = .ok (.if_icmp .ge 42, 3) := by decide +kernel
theorem dX11_runs_26 : decode cX11_runs 26 = .ok (.iload_n 1, 1) := by decide +kernel
theorem dX11_runs_27 : decode cX11_runs 27 = .ok (.aload_n 0, 1) := by decide +kernel
theorem dX11_runs_28 : decode cX11_runs 28 = .ok (.getfield 7, 3) := by decide +kernel
theorem dX11_runs_31 : decode cX11_runs 31 = .ok (.sipush 293, 3) := by decide +kernel
theorem dX11_runs_34 : decode cX11_runs 34 = .ok (.iload_n 2, 1) := by decide +kernel
theorem dX11_runs_35 : decode cX11_runs 35 = .ok (.iadd, 1) := by decide +kernel
theorem dX11_runs_36 : decode cX11_runs 36 = .ok (.iaload, 1) := by decide +kernel
theorem dX11_runs_37 : decode cX11_runs 37 = .ok (.aload_n 0, 1) := by decide +kernel
theorem dX11_runs_38 : decode cX11_runs 38 = .ok (.getfield 7, 3) := by decide +kernel
theorem dX11_runs_41 : decode cX11_runs 41 = .ok (.sipush 293, 3) := by decide +kernel
theorem dX11_runs_44 : decode cX11_runs 44 = .ok (.iload_n 2, 1) := by decide +kernel
theorem dX11_runs_45 : decode cX11_runs 45 = .ok (.iadd, 1) := by decide +kernel
theorem dX11_runs_46 : decode cX11_runs 46 = .ok (.iconst 1, 1) := by decide +kernel
theorem dX11_runs_47 : decode cX11_runs 47 = .ok (.isub, 1) := by decide +kernel
theorem dX11_runs_48 : decode cX11_runs 48 = .ok (.iaload, 1) := by decide +kernel
theorem dX11_runs_49 : decode cX11_runs 49 = .ok (.if_icmp .ne 7, 3) := by decide +kernel
theorem dX11_runs_52 : decode cX11_runs 52 = .ok (.iconst 0, 1) := by decide +kernel
theorem dX11_runs_53 : decode cX11_runs 53 = .ok (.goto 4, 3) := by decide +kernel
theorem dX11_runs_56 : decode cX11_runs 56 = .ok (.iconst 1, 1) := by decide +kernel
theorem dX11_runs_57 : decode cX11_runs 57 = .ok (.iadd, 1) := by decide +kernel
theorem dX11_runs_58 : decode cX11_runs 58 = .ok (.istore_n 1, 1) := by decide +kernel
theorem dX11_runs_59 : decode cX11_runs 59 = .ok (.iinc 2 1, 3) := by decide +kernel
theorem dX11_runs_62 : decode cX11_runs 62 = .ok (.goto (-44), 3) := by decide +kernel
theorem dX11_runs_65 : decode cX11_runs 65 = .ok (.iload_n 1, 1) := by decide +kernel
theorem dX11_runs_66 : decode cX11_runs 66 = .ok (.ireturn, 1) := by decide +kernel
theorem dX11_packed_0 : decode cX11_packed 0 = .ok (.iload_n 1, 1) := by decide +kernel
theorem dX11_packed_1 : decode cX11_packed 1 = .ok (.iconst (-1), 1) := by decide +kernel
theorem dX11_packed_2 : decode cX11_packed 2 = .ok (.if_icmp .ge 6, 3) := by decide +kernel
theorem dX11_packed_5 : decode cX11_packed 5 = .ok (.bipush (-2), 2) := by decide +kernel
theorem dX11_packed_7 : decode cX11_packed 7 = .ok (.ireturn, 1) := by decide +kernel
theorem dX11_packed_8 : decode cX11_packed 8 = .ok (.aload_n 0, 1) := by decide +kernel
theorem dX11_packed_9 : decode cX11_packed 9 = .ok (.getfield 7, 3) := by decide +kernel
theorem dX11_packed_12 : decode cX11_packed 12 = .ok (.sipush 292, 3) := by decide +kernel
theorem dX11_packed_15 : decode cX11_packed 15 = .ok (.iaload, 1) := by decide +kernel
theorem dX11_packed_16 : decode cX11_packed 16 = .ok (.ifCond .ne 6, 3) := by decide +kernel
theorem dX11_packed_19 : decode cX11_packed 19 = .ok (.bipush (-3), 2) := by decide +kernel
theorem dX11_packed_21 : decode cX11_packed 21 = .ok (.ireturn, 1) := by decide +kernel
theorem dX11_packed_22 : decode cX11_packed 22 = .ok (.iconst 0, 1) := by decide +kernel
theorem dX11_packed_23 : decode cX11_packed 23 = .ok (.istore_n 2, 1) := by decide +kernel
theorem dX11_packed_24 : decode cX11_packed 24 = .ok (.iconst 0, 1) := by decide +kernel
theorem dX11_packed_25 : decode cX11_packed 25 = .ok (.istore_n 3, 1) := by decide +kernel
theorem dX11_packed_26 : decode cX11_packed 26 = .ok (.iload_n 3, 1) := by decide +kernel
theorem dX11_packed_27 : decode cX11_packed 27 = .ok (.aload_n 0, 1) := by decide +kernel
theorem dX11_packed_28 : decode cX11_packed 28 = .ok (.invokevirtual 61, 3) := by decide +kernel
theorem dX11_packed_31 : decode cX11_packed 31 = .ok (.if_icmp .ge 38, 3) := by decide +kernel
theorem dX11_packed_34 : decode cX11_packed 34 = .ok (.aload_n 0, 1) := by decide +kernel
theorem dX11_packed_35 : decode cX11_packed 35 = .ok (.getfield 7, 3) := by decide +kernel
theorem dX11_packed_38 : decode cX11_packed 38 = .ok (.sipush 293, 3) := by decide +kernel
theorem dX11_packed_41 : decode cX11_packed 41 = .ok (.iload_n 3, 1) := by decide +kernel
theorem dX11_packed_42 : decode cX11_packed 42 = .ok (.iadd, 1) := by decide +kernel
theorem dX11_packed_43 : decode cX11_packed 43 = .ok (.iaload, 1) := by decide +kernel
theorem dX11_packed_44 : decode cX11_packed 44 = .ok (.iload_n 2, 1) := by decide +kernel
theorem dX11_packed_45 : decode cX11_packed 45 = .ok (.if_icmp .le 16, 3) := by decide +kernel
theorem dX11_packed_48 : decode cX11_packed 48 = .ok (.aload_n 0, 1) := by decide +kernel
theorem dX11_packed_49 : decode cX11_packed 49 = .ok (.getfield 7, 3) := by decide +kernel
theorem dX11_packed_52 : decode cX11_packed 52 = .ok (.sipush 293, 3) := by decide +kernel
theorem dX11_packed_55 : decode cX11_packed 55 = .ok (.iload_n 3, 1) := by decide +kernel
theorem dX11_packed_56 : decode cX11_packed 56 = .ok (.iadd, 1) := by decide +kernel
theorem dX11_packed_57 : decode cX11_packed 57 = .ok (.iaload, 1) := by decide +kernel
theorem dX11_packed_58 : decode cX11_packed 58 = .ok (.goto 4, 3) := by decide +kernel
theorem dX11_packed_61 : decode cX11_packed 61 = .ok (.iload_n 2, 1) := by decide +kernel
theorem dX11_packed_62 : decode cX11_packed 62 = .ok (.istore_n 2, 1) := by decide +kernel
theorem dX11_packed_63 : decode cX11_packed 63 = .ok (.iinc 3 1, 3) := by decide +kernel
theorem dX11_packed_66 : decode cX11_packed 66 = .ok (.goto (-40), 3) := by decide +kernel
theorem dX11_packed_69 : decode cX11_packed 69 = .ok (.iload_n 2, 1) := by decide +kernel
theorem dX11_packed_70 : decode cX11_packed 70 = .ok (.iconst 2, 1) := by decide +kernel
theorem dX11_packed_71 : decode cX11_packed 71 = .ok (.if_icmp .ge 7, 3) := by decide +kernel
theorem dX11_packed_74 : decode cX11_packed 74 = .ok (.iconst 1, 1) := by decide +kernel
theorem dX11_packed_75 : decode cX11_packed 75 = .ok (.goto 24, 3) := by decide +kernel
theorem dX11_packed_78 : decode cX11_packed 78 = .ok (.iload_n 2, 1) := by decide +kernel
theorem dX11_packed_79 : decode cX11_packed 79 = .ok (.iconst 4, 1) := by decide +kernel
theorem dX11_packed_80 : decode cX11_packed 80 = .ok (.if_icmp .ge 7, 3) := by decide +kernel
theorem dX11_packed_83 : decode cX11_packed 83 = .ok (.iconst 2, 1) := by decide +kernel
theorem dX11_packed_84 : decode cX11_packed 84 = .ok (.goto 15, 3) := by decide +kernel
theorem dX11_packed_87 : decode cX11_packed 87 = .ok (.iload_n 2, 1) := by decide +kernel
theorem dX11_packed_88 : decode cX11_packed 88 = .ok (.bipush 16, 2) := by decide +kernel
theorem dX11_packed_90 : decode cX11_packed 90 = .ok (.if_icmp .ge 7, 3) := by decide +kernel
theorem dX11_packed_93 : decode cX11_packed 93 = .ok (.iconst 4, 1) := by decide +kernel
theorem dX11_packed_94 : decode cX11_packed 94 = .ok (.goto 5, 3) := by decide +kernel
theorem dX11_packed_97 : decode cX11_packed 97 = .ok (.bipush 8, 2) := by decide +kernel
theorem dX11_packed_99 : decode cX11_packed 99 = .ok (.istore_n 3, 1) := by decide +kernel
theorem dX11_packed_100 : decode cX11_packed 100 = .ok (.aload_n 0, 1) := by decide +kernel
theorem dX11_packed_101 : decode cX11_packed 101 = .ok (.getfield 7, 3) := by decide +kernel
theorem dX11_packed_104 : decode cX11_packed 104 = .ok (.iconst 0, 1) := by decide +kernel
theorem dX11_packed_105 : decode cX11_packed 105 = .ok (.iaload, 1) := by decide +kernel
theorem dX11_packed_106 : decode cX11_packed 106 = .ok (.iload_n 3, 1) := by decide +kernel
theorem dX11_packed_107 : decode cX11_packed 107 = .ok (.imul, 1) := by decide +kernel
theorem dX11_packed_108 : decode cX11_packed 108 = .ok (.bipush 7, 2) := by decide +kernel
theorem dX11_packed_110 : decode cX11_packed 110 = .ok (.iadd, 1) := by decide +kernel
theorem dX11_packed_111 : decode cX11_packed 111 = .ok (.bipush 8, 2) := by decide +kernel
theorem dX11_packed_113 : decode cX11_packed 113 = .ok (.idiv, 1) := by decide +kernel
theorem dX11_packed_114 : decode cX11_packed 114 = .ok (.istore 4, 2) := by decide +kernel
theorem dX11_packed_116 : decode cX11_packed 116 = .ok (.iload_n 1, 1) := by decide +kernel
theorem dX11_packed_117 : decode cX11_packed 117 = .ok (.iconst (-1), 1) := by decide +kernel
theorem dX11_packed_118 : decode cX11_packed 118 = .ok (.if_icmp .eq 16, 3) := by decide +kernel
theorem dX11_packed_121 : decode cX11_packed 121 = .ok (.iload_n 1, 1) := by decide +kernel
theorem dX11_packed_122 : decode cX11_packed 122 = .ok (.iload 4, 2) := by decide +kernel
theorem dX11_packed_124 : decode cX11_packed 124 = .ok (.aload_n 0, 1) := by decide +kernel
theorem dX11_packed_125 : decode cX11_packed 125 = .ok (.getfield 7, 3) := by decide +kernel
theorem dX11_packed_128 : decode cX11_packed 128 = .ok (.iconst 1, 1) := by decide +kernel
theorem dX11_packed_129 : decode cX11_packed 129 = .ok (.iaload, 1) := by decide +kernel
theorem dX11_packed_130 : decode cX11_packed 130 = .ok (.imul, 1) := by decide +kernel
theorem dX11_packed_131 : decode cX11_packed 131 = .ok (.if_icmp .lt 22, 3) := by decide +kernel
theorem dX11_packed_134 : decode cX11_packed 134 = .ok (.iload_n 1, 1) := by decide +kernel
theorem dX11_packed_135 : decode cX11_packed 135 = .ok (.iconst (-1), 1) := by decide +kernel
theorem dX11_packed_136 : decode cX11_packed 136 = .ok (.if_icmp .ne 15, 3) := by decide +kernel
theorem dX11_packed_139 : decode cX11_packed 139 = .ok (.iload 4, 2) := by decide +kernel
theorem dX11_packed_141 : decode cX11_packed 141 = .ok (.aload_n 0, 1) := by decide +kernel
theorem dX11_packed_142 : decode cX11_packed 142 = .ok (.getfield 7, 3) := by decide +kernel
theorem dX11_packed_145 : decode cX11_packed 145 = .ok (.iconst 1, 1) := by decide +kernel
theorem dX11_packed_146 : decode cX11_packed 146 = .ok (.iaload, 1) := by decide +kernel
theorem dX11_packed_147 : decode cX11_packed 147 = .ok (.imul, 1) := by decide +kernel
theorem dX11_packed_148 : decode cX11_packed 148 = .ok (.goto 4, 3) := by decide +kernel
theorem dX11_packed_151 : decode cX11_packed 151 = .ok (.iconst (-1), 1) := by decide +kernel
theorem dX11_packed_152 : decode cX11_packed 152 = .ok (.ireturn, 1) := by decide +kernel
theorem dX11_packed_153 : decode cX11_packed 153 = .ok (.iconst 0, 1) := by decide +kernel
theorem dX11_packed_154 : decode cX11_packed 154 = .ok (.istore 5, 2) := by decide +kernel
theorem dX11_packed_156 : decode cX11_packed 156 = .ok (.bipush 8, 2) := by decide +kernel
theorem dX11_packed_158 : decode cX11_packed 158 = .ok (.iload_n 3, 1) := by decide +kernel
theorem dX11_packed_159 : decode cX11_packed 159 = .ok (.idiv, 1) := by decide +kernel
theorem dX11_packed_160 : decode cX11_packed 160 = .ok (.istore 6, 2) := by decide +kernel
theorem dX11_packed_162 : decode cX11_packed 162 = .ok (.iconst 0, 1) := by decide +kernel
theorem dX11_packed_163 : decode cX11_packed 163 = .ok (.istore 7, 2) := by decide +kernel
theorem dX11_packed_165 : decode cX11_packed 165 = .ok (.iload 7, 2) := by decide +kernel
theorem dX11_packed_167 : decode cX11_packed 167 = .ok (.iload 6, 2) := by decide +kernel
theorem dX11_packed_169 : decode cX11_packed 169 = .ok (.if_icmp .ge 70, 3) := by decide +kernel
theorem dX11_packed_172 : decode cX11_packed 172 = .ok (.iload_n 1, 1) := by decide +kernel
theorem dX11_packed_173 : decode cX11_packed 173 = .ok (.iload 4, 2) := by decide +kernel
theorem dX11_packed_175 : decode cX11_packed 175 = .ok (.irem, 1) := by decide +kernel
theorem dX11_packed_176 : decode cX11_packed 176 = .ok (.iload 6, 2) := by decide +kernel
theorem dX11_packed_178 : decode cX11_packed 178 = .ok (.imul, 1) := by decide +kernel
theorem dX11_packed_179 : decode cX11_packed 179 = .ok (.iload 7, 2) := by decide +kernel
theorem dX11_packed_181 : decode cX11_packed 181 = .ok (.iadd, 1) := by decide +kernel
theorem dX11_packed_182 : decode cX11_packed 182 = .ok (.istore 8, 2) := by decide +kernel
theorem dX11_packed_184 : decode cX11_packed 184 = .ok (.iload 8, 2) := by decide +kernel
theorem dX11_packed_186 : decode cX11_packed 186 = .ok (.aload_n 0, 1) := by decide +kernel
theorem dX11_packed_187 : decode cX11_packed 187 = .ok (.getfield 7, 3) := by decide +kernel
theorem dX11_packed_190 : decode cX11_packed 190 = .ok (.iconst 0, 1) := by decide +kernel
theorem dX11_packed_191 : decode cX11_packed 191 = .ok (.iaload, 1) := by decide +kernel
theorem dX11_packed_192 : decode cX11_packed 192 = .ok (.if_icmp .ge 29, 3) := by decide +kernel
theorem dX11_packed_195 : decode cX11_packed 195 = .ok (.aload_n 0, 1) := by decide +kernel
theorem dX11_packed_196 : decode cX11_packed 196 = .ok (.getfield 7, 3) := by decide +kernel
theorem dX11_packed_199 : decode cX11_packed 199 = .ok (.sipush 293, 3) := by decide +kernel
theorem dX11_packed_202 : decode cX11_packed 202 = .ok (.iload_n 1, 1) := by decide +kernel
theorem dX11_packed_203 : decode cX11_packed 203 = .ok (.iload 4, 2) := by decide +kernel
theorem dX11_packed_205 : decode cX11_packed 205 = .ok (.idiv, 1) := by decide +kernel
theorem dX11_packed_206 : decode cX11_packed 206 = .ok (.aload_n 0, 1) := by decide +kernel
theorem dX11_packed_207 : decode cX11_packed 207 = .ok (.getfield 7, 3) := by decide +kernel
theorem dX11_packed_210 : decode cX11_packed 210 = .ok (.iconst 0, 1) := by decide +kernel
theorem dX11_packed_211 : decode cX11_packed 211 = .ok (.iaload, 1) := by decide +kernel
theorem dX11_packed_212 : decode cX11_packed 212 = .ok (.imul, 1) := by decide +kernel
theorem dX11_packed_213 : decode cX11_packed 213 = .ok (.iadd, 1) := by decide +kernel
theorem dX11_packed_214 : decode cX11_packed 214 = .ok (.iload 8, 2) := by decide +kernel
theorem dX11_packed_216 : decode cX11_packed 216 = .ok (.iadd, 1) := by decide +kernel
theorem dX11_packed_217 : decode cX11_packed 217 = .ok (.iaload, 1) := by decide +kernel
theorem dX11_packed_218 : decode cX11_packed 218 = .ok (.goto 4, 3) := by decide +kernel
theorem dX11_packed_221 : decode cX11_packed 221 = .ok (.iconst 0, 1) := by decide +kernel
theorem dX11_packed_222 : decode cX11_packed 222 = .ok (.istore 9, 2) := by decide +kernel
theorem dX11_packed_224 : decode cX11_packed 224 = .ok (.iload 5, 2) := by decide +kernel
theorem dX11_packed_226 : decode cX11_packed 226 = .ok (.iload_n 3, 1) := by decide +kernel
theorem dX11_packed_227 : decode cX11_packed 227 = .ok (.ishl, 1) := by decide +kernel
theorem dX11_packed_228 : decode cX11_packed 228 = .ok (.iload 9, 2) := by decide +kernel
theorem dX11_packed_230 : decode cX11_packed 230 = .ok (.iadd, 1) := by decide +kernel
theorem dX11_packed_231 : decode cX11_packed 231 = .ok (.istore 5, 2) := by decide +kernel
theorem dX11_packed_233 : decode cX11_packed 233 = .ok (.iinc 7 1, 3) := by decide +kernel
theorem dX11_packed_236 : decode cX11_packed 236 = .ok (.goto (-71), 3) := by decide +kernel
theorem dX11_packed_239 : decode cX11_packed 239 = .ok (.iload 5, 2) := by decide +kernel
theorem dX11_packed_241 : decode cX11_packed 241 = .ok (.ireturn, 1) := by decide +kernel
theorem dX11_bestBut_0 : decode cX11_bestBut 0 = .ok (.iconst 0, 1) := by decide +kernel
theorem dX11_bestBut_1 : decode cX11_bestBut 1 = .ok (.istore_n 2, 1) := by decide +kernel
theorem dX11_bestBut_2 : decode cX11_bestBut 2 = .ok (.iconst 0, 1) := by decide +kernel
theorem dX11_bestBut_3 : decode cX11_bestBut 3 = .ok (.istore_n 3, 1) := by decide +kernel
theorem dX11_bestBut_4 : decode cX11_bestBut 4 = .ok (.iload_n 3, 1) := by decide +kernel
theorem dX11_bestBut_5 : decode cX11_bestBut 5 = .ok (.aload_n 0, 1) := by decide +kernel
theorem dX11_bestBut_6 : decode cX11_bestBut 6 = .ok (.invokevirtual 61, 3) := by decide +kernel
theorem dX11_bestBut_9 : decode cX11_bestBut 9 = .ok (.if_icmp .ge 58, 3) := by decide +kernel
theorem dX11_bestBut_12 : decode cX11_bestBut 12 = .ok (.aload_n 0, 1) := by decide +kernel
theorem dX11_bestBut_13 : decode cX11_bestBut 13 = .ok (.iload_n 3, 1) := by decide +kernel
theorem dX11_bestBut_14 : decode cX11_bestBut 14 = .ok (.invokevirtual 65, 3) := by decide +kernel
theorem dX11_bestBut_17 : decode cX11_bestBut 17 = .ok (.ifCond .eq 44, 3) := by decide +kernel
theorem dX11_bestBut_20 : decode cX11_bestBut 20 = .ok (.aload_n 0, 1) := by decide +kernel
theorem dX11_bestBut_21 : decode cX11_bestBut 21 = .ok (.aload_n 0, 1) := by decide +kernel
theorem dX11_bestBut_22 : decode cX11_bestBut 22 = .ok (.getfield 7, 3) := by decide +kernel
theorem dX11_bestBut_25 : decode cX11_bestBut 25 = .ok (.iconst 2, 1) := by decide +kernel
theorem dX11_bestBut_26 : decode cX11_bestBut 26 = .ok (.iload_n 3, 1) := by decide +kernel
theorem dX11_bestBut_27 : decode cX11_bestBut 27 = .ok (.iadd, 1) := by decide +kernel
theorem dX11_bestBut_28 : decode cX11_bestBut 28 = .ok (.iaload, 1) := by decide +kernel
theorem dX11_bestBut_29 : decode cX11_bestBut 29 = .ok (.iload_n 1, 1) := by decide +kernel
theorem dX11_bestBut_30 : decode cX11_bestBut 30 = .ok (.invokevirtual 76, 3) := by decide +kernel
theorem dX11_bestBut_33 : decode cX11_bestBut 33 = .ok (.istore 4, 2) := by decide +kernel
theorem dX11_bestBut_35 : decode cX11_bestBut 35 = .ok (.iload_n 2, 1) := by decide +kernel
theorem dX11_bestBut_36 : decode cX11_bestBut 36 = .ok (.aload_n 0, 1) := by decide +kernel
theorem dX11_bestBut_37 : decode cX11_bestBut 37 = .ok (.aload_n 0, 1) := by decide +kernel
theorem dX11_bestBut_38 : decode cX11_bestBut 38 = .ok (.getfield 7, 3) := by decide +kernel
theorem dX11_bestBut_41 : decode cX11_bestBut 41 = .ok (.iconst 2, 1) := by decide +kernel
theorem dX11_bestBut_42 : decode cX11_bestBut 42 = .ok (.iload_n 3, 1) := by decide +kernel
theorem dX11_bestBut_43 : decode cX11_bestBut 43 = .ok (.iadd, 1) := by decide +kernel
theorem dX11_bestBut_44 : decode cX11_bestBut 44 = .ok (.iaload, 1) := by decide +kernel
theorem dX11_bestBut_45 : decode cX11_bestBut 45 = .ok (.aload_n 0, 1) := by decide +kernel
theorem dX11_bestBut_46 : decode cX11_bestBut 46 = .ok (.getfield 7, 3) := by decide +kernel
theorem dX11_bestBut_49 : decode cX11_bestBut 49 = .ok (.sipush 259, 3) := by decide +kernel
theorem dX11_bestBut_52 : decode cX11_bestBut 52 = .ok (.iload 4, 2) := by decide +kernel
theorem dX11_bestBut_54 : decode cX11_bestBut 54 = .ok (.iadd, 1) := by decide +kernel
theorem dX11_bestBut_55 : decode cX11_bestBut 55 = .ok (.iaload, 1) := by decide +kernel
theorem dX11_bestBut_56 : decode cX11_bestBut 56 = .ok (.invokevirtual 73, 3) := by decide +kernel
theorem dX11_bestBut_59 : decode cX11_bestBut 59 = .ok (.iadd, 1) := by decide +kernel
theorem dX11_bestBut_60 : decode cX11_bestBut 60 = .ok (.istore_n 2, 1) := by decide +kernel
theorem dX11_bestBut_61 : decode cX11_bestBut 61 = .ok (.iinc 3 1, 3) := by decide +kernel
theorem dX11_bestBut_64 : decode cX11_bestBut 64 = .ok (.goto (-60), 3) := by decide +kernel
theorem dX11_bestBut_67 : decode cX11_bestBut 67 = .ok (.iload_n 2, 1) := by decide +kernel
theorem dX11_bestBut_68 : decode cX11_bestBut 68 = .ok (.ireturn, 1) := by decide +kernel
theorem dX11_bestError_0 : decode cX11_bestError 0 = .ok (.aload_n 0, 1) := by decide +kernel
theorem dX11_bestError_1 : decode cX11_bestError 1 = .ok (.getfield 7, 3) := by decide +kernel
theorem dX11_bestError_4 : decode cX11_bestError 4 = .ok (.sipush 258, 3) := by decide +kernel
theorem dX11_bestError_7 : decode cX11_bestError 7 = .ok (.iaload, 1) := by decide +kernel
theorem dX11_bestError_8 : decode cX11_bestError 8 = .ok (.ifCond .ne 17, 3) := by decide +kernel
theorem dX11_bestError_11 : decode cX11_bestError 11 = .ok (.aload_n 0, 1) := by decide +kernel
theorem dX11_bestError_12 : decode cX11_bestError 12 = .ok (.invokevirtual 112, 3) := by decide +kernel
theorem dX11_bestError_15 : decode cX11_bestError 15 = .ok (.ifCond .le 8, 3) := by decide +kernel
theorem dX11_bestError_18 : decode cX11_bestError 18 = .ok (.bipush (-3), 2) := by decide +kernel
theorem dX11_bestError_20 : decode cX11_bestError 20 = .ok (.goto 4, 3) := by decide +kernel
theorem dX11_bestError_23 : decode cX11_bestError 23 = .ok (.iconst 0, 1) := by decide +kernel
theorem dX11_bestError_24 : decode cX11_bestError 24 = .ok (.ireturn, 1) := by decide +kernel
theorem dX11_bestError_25 : decode cX11_bestError 25 = .ok (.aload_n 0, 1) := by decide +kernel
theorem dX11_bestError_26 : decode cX11_bestError 26 = .ok (.iconst (-1), 1) := by decide +kernel
theorem dX11_bestError_27 : decode cX11_bestError 27 = .ok (.invokevirtual 275, 3) := by decide +kernel
theorem dX11_bestError_30 : decode cX11_bestError 30 = .ok (.ireturn, 1) := by decide +kernel
theorem dX11_loss_0 : decode cX11_loss 0 = .ok (.aload_n 0, 1) := by decide +kernel
theorem dX11_loss_1 : decode cX11_loss 1 = .ok (.iload_n 1, 1) := by decide +kernel
theorem dX11_loss_2 : decode cX11_loss 2 = .ok (.invokevirtual 136, 3) := by decide +kernel
theorem dX11_loss_5 : decode cX11_loss 5 = .ok (.ifCond .ne 6, 3) := by decide +kernel
theorem dX11_loss_8 : decode cX11_loss 8 = .ok (.bipush (-2), 2) := by decide +kernel
theorem dX11_loss_10 : decode cX11_loss 10 = .ok (.ireturn, 1) := by decide +kernel
theorem dX11_loss_11 : decode cX11_loss 11 = .ok (.aload_n 0, 1) := by decide +kernel
theorem dX11_loss_12 : decode cX11_loss 12 = .ok (.getfield 7, 3) := by decide +kernel
theorem dX11_loss_15 : decode cX11_loss 15 = .ok (.sipush 258, 3) := by decide +kernel
theorem dX11_loss_18 : decode cX11_loss 18 = .ok (.iaload, 1) := by decide +kernel
theorem dX11_loss_19 : decode cX11_loss 19 = .ok (.iconst 1, 1) := by decide +kernel
theorem dX11_loss_20 : decode cX11_loss 20 = .ok (.if_icmp .ne 8, 3) := by decide +kernel
theorem dX11_loss_23 : decode cX11_loss 23 = .ok (.bipush (-3), 2) := by decide +kernel
theorem dX11_loss_25 : decode cX11_loss 25 = .ok (.goto 14, 3) := by decide +kernel
theorem dX11_loss_28 : decode cX11_loss 28 = .ok (.aload_n 0, 1) := by decide +kernel
theorem dX11_loss_29 : decode cX11_loss 29 = .ok (.iload_n 1, 1) := by decide +kernel
theorem dX11_loss_30 : decode cX11_loss 30 = .ok (.invokevirtual 275, 3) := by decide +kernel
theorem dX11_loss_33 : decode cX11_loss 33 = .ok (.aload_n 0, 1) := by decide +kernel
theorem dX11_loss_34 : decode cX11_loss 34 = .ok (.iconst (-1), 1) := by decide +kernel
theorem dX11_loss_35 : decode cX11_loss 35 = .ok (.invokevirtual 275, 3) := by decide +kernel
theorem dX11_loss_38 : decode cX11_loss 38 = .ok (.isub, 1) := by decide +kernel
theorem dX11_loss_39 : decode cX11_loss 39 = .ok (.ireturn, 1) := by decide +kernel
theorem dX11_cheapest_0 : decode cX11_cheapest 0 = .ok (.aload_n 0, 1) := by decide +kernel
theorem dX11_cheapest_1 : decode cX11_cheapest 1 = .ok (.getfield 7, 3) := by decide +kernel
theorem dX11_cheapest_4 : decode cX11_cheapest 4 = .ok (.sipush 258, 3) := by decide +kernel
theorem dX11_cheapest_7 : decode cX11_cheapest 7 = .ok (.iaload, 1) := by decide +kernel
theorem dX11_cheapest_8 : decode cX11_cheapest 8 = .ok (.iconst 2, 1) := by decide +kernel
theorem dX11_cheapest_9 : decode cX11_cheapest 9 = .ok (.if_icmp .ge 6, 3) := by decide +kernel
theorem dX11_cheapest_12 : decode cX11_cheapest 12 = .ok (.bipush (-3), 2) := by decide +kernel
theorem dX11_cheapest_14 : decode cX11_cheapest 14 = .ok (.ireturn, 1) := by decide +kernel
theorem dX11_cheapest_15 : decode cX11_cheapest 15 = .ok (.iconst (-1), 1) := by decide +kernel
theorem dX11_cheapest_16 : decode cX11_cheapest 16 = .ok (.istore_n 1, 1) := by decide +kernel
theorem dX11_cheapest_17 : decode cX11_cheapest 17 = .ok (.iconst 0, 1) := by decide +kernel
theorem dX11_cheapest_18 : decode cX11_cheapest 18 = .ok (.istore_n 2, 1) := by decide +kernel
theorem dX11_cheapest_19 : decode cX11_cheapest 19 = .ok (.iload_n 2, 1) := by decide +kernel
theorem dX11_cheapest_20 : decode cX11_cheapest 20 = .ok (.aload_n 0, 1) := by decide +kernel
theorem dX11_cheapest_21 : decode cX11_cheapest 21 = .ok (.getfield 7, 3) := by decide +kernel
theorem dX11_cheapest_24 : decode cX11_cheapest 24 = .ok (.sipush 258, 3) := by decide +kernel
theorem dX11_cheapest_27 : decode cX11_cheapest 27 = .ok (.iaload, 1) := by decide +kernel
theorem dX11_cheapest_28 : decode cX11_cheapest 28 = .ok (.if_icmp .ge 41, 3) := by decide +kernel
theorem dX11_cheapest_31 : decode cX11_cheapest 31 = .ok (.aload_n 0, 1) := by decide +kernel
theorem dX11_cheapest_32 : decode cX11_cheapest 32 = .ok (.iload_n 2, 1) := by decide +kernel
theorem dX11_cheapest_33 : decode cX11_cheapest 33 = .ok (.invokevirtual 124, 3) := by decide +kernel
theorem dX11_cheapest_36 : decode cX11_cheapest 36 = .ok (.ifCond .ne 25, 3) := by decide +kernel
theorem dX11_cheapest_39 : decode cX11_cheapest 39 = .ok (.iload_n 1, 1) := by decide +kernel
theorem dX11_cheapest_40 : decode cX11_cheapest 40 = .ok (.iconst (-1), 1) := by decide +kernel
theorem dX11_cheapest_41 : decode cX11_cheapest 41 = .ok (.if_icmp .eq 16, 3) := by decide +kernel
theorem dX11_cheapest_44 : decode cX11_cheapest 44 = .ok (.aload_n 0, 1) := by decide +kernel
theorem dX11_cheapest_45 : decode cX11_cheapest 45 = .ok (.iload_n 2, 1) := by decide +kernel
theorem dX11_cheapest_46 : decode cX11_cheapest 46 = .ok (.invokevirtual 275, 3) := by decide +kernel
theorem dX11_cheapest_49 : decode cX11_cheapest 49 = .ok (.aload_n 0, 1) := by decide +kernel
theorem dX11_cheapest_50 : decode cX11_cheapest 50 = .ok (.iload_n 1, 1) := by decide +kernel
theorem dX11_cheapest_51 : decode cX11_cheapest 51 = .ok (.invokevirtual 275, 3) := by decide +kernel
theorem dX11_cheapest_54 : decode cX11_cheapest 54 = .ok (.if_icmp .ge 7, 3) := by decide +kernel
theorem dX11_cheapest_57 : decode cX11_cheapest 57 = .ok (.iload_n 2, 1) := by decide +kernel
theorem dX11_cheapest_58 : decode cX11_cheapest 58 = .ok (.goto 4, 3) := by decide +kernel
theorem dX11_cheapest_61 : decode cX11_cheapest 61 = .ok (.iload_n 1, 1) := by decide +kernel
theorem dX11_cheapest_62 : decode cX11_cheapest 62 = .ok (.istore_n 1, 1) := by decide +kernel
theorem dX11_cheapest_63 : decode cX11_cheapest 63 = .ok (.iinc 2 1, 3) := by decide +kernel
theorem dX11_cheapest_66 : decode cX11_cheapest 66 = .ok (.goto (-47), 3) := by decide +kernel
theorem dX11_cheapest_69 : decode cX11_cheapest 69 = .ok (.iload_n 1, 1) := by decide +kernel
theorem dX11_cheapest_70 : decode cX11_cheapest 70 = .ok (.ireturn, 1) := by decide +kernel
theorem dX11_gainOf_0 : decode cX11_gainOf 0 = .ok (.iconst 0, 1) := by decide +kernel
theorem dX11_gainOf_1 : decode cX11_gainOf 1 = .ok (.istore_n 2, 1) := by decide +kernel
theorem dX11_gainOf_2 : decode cX11_gainOf 2 = .ok (.iconst 0, 1) := by decide +kernel
theorem dX11_gainOf_3 : decode cX11_gainOf 3 = .ok (.istore_n 3, 1) := by decide +kernel
theorem dX11_gainOf_4 : decode cX11_gainOf 4 = .ok (.iload_n 3, 1) := by decide +kernel
theorem dX11_gainOf_5 : decode cX11_gainOf 5 = .ok (.aload_n 0, 1) := by decide +kernel
theorem dX11_gainOf_6 : decode cX11_gainOf 6 = .ok (.invokevirtual 61, 3) := by decide +kernel
theorem dX11_gainOf_9 : decode cX11_gainOf 9 = .ok (.if_icmp .ge 72, 3) := by decide +kernel
theorem dX11_gainOf_12 : decode cX11_gainOf 12 = .ok (.aload_n 0, 1) := by decide +kernel
theorem dX11_gainOf_13 : decode cX11_gainOf 13 = .ok (.iload_n 3, 1) := by decide +kernel
theorem dX11_gainOf_14 : decode cX11_gainOf 14 = .ok (.invokevirtual 65, 3) := by decide +kernel
theorem dX11_gainOf_17 : decode cX11_gainOf 17 = .ok (.ifCond .eq 58, 3) := by decide +kernel
theorem dX11_gainOf_20 : decode cX11_gainOf 20 = .ok (.aload_n 0, 1) := by decide +kernel
theorem dX11_gainOf_21 : decode cX11_gainOf 21 = .ok (.getfield 7, 3) := by decide +kernel
theorem dX11_gainOf_24 : decode cX11_gainOf 24 = .ok (.iconst 2, 1) := by decide +kernel
theorem dX11_gainOf_25 : decode cX11_gainOf 25 = .ok (.iload_n 3, 1) := by decide +kernel
theorem dX11_gainOf_26 : decode cX11_gainOf 26 = .ok (.iadd, 1) := by decide +kernel
theorem dX11_gainOf_27 : decode cX11_gainOf 27 = .ok (.iaload, 1) := by decide +kernel
theorem dX11_gainOf_28 : decode cX11_gainOf 28 = .ok (.istore 4, 2) := by decide +kernel
theorem dX11_gainOf_30 : decode cX11_gainOf 30 = .ok (.aload_n 0, 1) := by decide +kernel
theorem dX11_gainOf_31 : decode cX11_gainOf 31 = .ok (.iload 4, 2) := by decide +kernel
theorem dX11_gainOf_33 : decode cX11_gainOf 33 = .ok (.aload_n 0, 1) := by decide +kernel
theorem dX11_gainOf_34 : decode cX11_gainOf 34 = .ok (.getfield 7, 3) := by decide +kernel
theorem dX11_gainOf_37 : decode cX11_gainOf 37 = .ok (.sipush 259, 3) := by decide +kernel
theorem dX11_gainOf_40 : decode cX11_gainOf 40 = .ok (.aload_n 0, 1) := by decide +kernel
theorem dX11_gainOf_41 : decode cX11_gainOf 41 = .ok (.iload 4, 2) := by decide +kernel
theorem dX11_gainOf_43 : decode cX11_gainOf 43 = .ok (.invokevirtual 146, 3) := by decide +kernel
theorem dX11_gainOf_46 : decode cX11_gainOf 46 = .ok (.iadd, 1) := by decide +kernel
theorem dX11_gainOf_47 : decode cX11_gainOf 47 = .ok (.iaload, 1) := by decide +kernel
theorem dX11_gainOf_48 : decode cX11_gainOf 48 = .ok (.invokevirtual 73, 3) := by decide +kernel
theorem dX11_gainOf_51 : decode cX11_gainOf 51 = .ok (.aload_n 0, 1) := by decide +kernel
theorem dX11_gainOf_52 : decode cX11_gainOf 52 = .ok (.iload 4, 2) := by decide +kernel
theorem dX11_gainOf_54 : decode cX11_gainOf 54 = .ok (.iload_n 1, 1) := by decide +kernel
theorem dX11_gainOf_55 : decode cX11_gainOf 55 = .ok (.invokevirtual 73, 3) := by decide +kernel
theorem dX11_gainOf_58 : decode cX11_gainOf 58 = .ok (.isub, 1) := by decide +kernel
theorem dX11_gainOf_59 : decode cX11_gainOf 59 = .ok (.istore 5, 2) := by decide +kernel
theorem dX11_gainOf_61 : decode cX11_gainOf 61 = .ok (.iload_n 2, 1) := by decide +kernel
theorem dX11_gainOf_62 : decode cX11_gainOf 62 = .ok (.iload 5, 2) := by decide +kernel
theorem dX11_gainOf_64 : decode cX11_gainOf 64 = .ok (.ifCond .le 8, 3) := by decide +kernel
theorem dX11_gainOf_67 : decode cX11_gainOf 67 = .ok (.iload 5, 2) := by decide +kernel
theorem dX11_gainOf_69 : decode cX11_gainOf 69 = .ok (.goto 4, 3) := by decide +kernel
theorem dX11_gainOf_72 : decode cX11_gainOf 72 = .ok (.iconst 0, 1) := by decide +kernel
theorem dX11_gainOf_73 : decode cX11_gainOf 73 = .ok (.iadd, 1) := by decide +kernel
theorem dX11_gainOf_74 : decode cX11_gainOf 74 = .ok (.istore_n 2, 1) := by decide +kernel
theorem dX11_gainOf_75 : decode cX11_gainOf 75 = .ok (.iinc 3 1, 3) := by decide +kernel
theorem dX11_gainOf_78 : decode cX11_gainOf 78 = .ok (.goto (-74), 3) := by decide +kernel
theorem dX11_gainOf_81 : decode cX11_gainOf 81 = .ok (.iload_n 2, 1) := by decide +kernel
theorem dX11_gainOf_82 : decode cX11_gainOf 82 = .ok (.ireturn, 1) := by decide +kernel
theorem dX11_gain_0 : decode cX11_gain 0 = .ok (.iload_n 1, 1) := by decide +kernel
theorem dX11_gain_1 : decode cX11_gain 1 = .ok (.invokestatic 91, 3) := by decide +kernel
theorem dX11_gain_4 : decode cX11_gain 4 = .ok (.ifCond .ne 6, 3) := by decide +kernel
theorem dX11_gain_7 : decode cX11_gain 7 = .ok (.bipush (-2), 2) := by decide +kernel
theorem dX11_gain_9 : decode cX11_gain 9 = .ok (.ireturn, 1) := by decide +kernel
theorem dX11_gain_10 : decode cX11_gain 10 = .ok (.aload_n 0, 1) := by decide +kernel
theorem dX11_gain_11 : decode cX11_gain 11 = .ok (.getfield 7, 3) := by decide +kernel
theorem dX11_gain_14 : decode cX11_gain 14 = .ok (.sipush 258, 3) := by decide +kernel
theorem dX11_gain_17 : decode cX11_gain 17 = .ok (.iaload, 1) := by decide +kernel
theorem dX11_gain_18 : decode cX11_gain 18 = .ok (.ifCond .ne 8, 3) := by decide +kernel
theorem dX11_gain_21 : decode cX11_gain 21 = .ok (.bipush (-3), 2) := by decide +kernel
theorem dX11_gain_23 : decode cX11_gain 23 = .ok (.goto 8, 3) := by decide +kernel
theorem dX11_gain_26 : decode cX11_gain 26 = .ok (.aload_n 0, 1) := by decide +kernel
theorem dX11_gain_27 : decode cX11_gain 27 = .ok (.iload_n 1, 1) := by decide +kernel
theorem dX11_gain_28 : decode cX11_gain 28 = .ok (.invokevirtual 278, 3) := by decide +kernel
theorem dX11_gain_31 : decode cX11_gain 31 = .ok (.ireturn, 1) := by decide +kernel
theorem dX11_bestAddition_0 : decode cX11_bestAddition 0 = .ok (.aload_n 0, 1) := by decide +kernel
theorem dX11_bestAddition_1 : decode cX11_bestAddition 1 = .ok (.getfield 7, 3) := by decide +kernel
theorem dX11_bestAddition_4 : decode cX11_bestAddition 4 = .ok (.sipush 258, 3) := by decide +kernel
theorem dX11_bestAddition_7 : decode cX11_bestAddition 7 = .ok (.iaload, 1) := by decide +kernel
theorem dX11_bestAddition_8 : decode cX11_bestAddition 8 = .ok (.ifCond .ne 6, 3) := by decide +kernel
theorem dX11_bestAddition_11 : decode cX11_bestAddition 11 = .ok (.bipush (-3), 2) := by decide +kernel
theorem dX11_bestAddition_13 : decode cX11_bestAddition 13 = .ok (.ireturn, 1) := by decide +kernel
theorem dX11_bestAddition_14 : decode cX11_bestAddition 14 = .ok (.aload_n 0, 1) := by decide +kernel
theorem dX11_bestAddition_15 : decode cX11_bestAddition 15 = .ok (.iconst 0, 1) := by decide +kernel
theorem dX11_bestAddition_16 : decode cX11_bestAddition 16 = .ok (.invokevirtual 127, 3) := by decide +kernel
theorem dX11_bestAddition_19 : decode cX11_bestAddition 19 = .ok (.iconst (-1), 1) := by decide +kernel
theorem dX11_bestAddition_20 : decode cX11_bestAddition 20 = .ok (.istore_n 1, 1) := by decide +kernel
theorem dX11_bestAddition_21 : decode cX11_bestAddition 21 = .ok (.iconst 0, 1) := by decide +kernel
theorem dX11_bestAddition_22 : decode cX11_bestAddition 22 = .ok (.istore_n 2, 1) := by decide +kernel
theorem dX11_bestAddition_23 : decode cX11_bestAddition 23 = .ok (.iconst 0, 1) := by decide +kernel
theorem dX11_bestAddition_24 : decode cX11_bestAddition 24 = .ok (.istore_n 3, 1) := by decide +kernel
theorem dX11_bestAddition_25 : decode cX11_bestAddition 25 = .ok (.iload_n 3, 1) := by decide +kernel
theorem dX11_bestAddition_26 : decode cX11_bestAddition 26 = .ok (.aload_n 0, 1) := by decide +kernel
theorem dX11_bestAddition_27 : decode cX11_bestAddition 27 = .ok (.getfield 115, 3) := by decide +kernel
theorem dX11_bestAddition_30 : decode cX11_bestAddition 30 = .ok (.if_icmp .ge 83, 3) := by decide +kernel
theorem dX11_bestAddition_33 : decode cX11_bestAddition 33 = .ok (.aload_n 0, 1) := by decide +kernel
theorem dX11_bestAddition_34 : decode cX11_bestAddition 34 = .ok (.aload_n 0, 1) := by decide +kernel
theorem dX11_bestAddition_35 : decode cX11_bestAddition 35 = .ok (.getfield 19, 3) := by decide +kernel
theorem dX11_bestAddition_38 : decode cX11_bestAddition 38 = .ok (.iload_n 3, 1) := by decide +kernel
theorem dX11_bestAddition_39 : decode cX11_bestAddition 39 = .ok (.iaload, 1) := by decide +kernel
theorem dX11_bestAddition_40 : decode cX11_bestAddition 40 = .ok (.invokevirtual 278, 3) := by decide +kernel
theorem dX11_bestAddition_43 : decode cX11_bestAddition 43 = .ok (.istore 4, 2) := by decide +kernel
theorem dX11_bestAddition_45 : decode cX11_bestAddition 45 = .ok (.iload_n 1, 1) := by decide +kernel
theorem dX11_bestAddition_46 : decode cX11_bestAddition 46 = .ok (.iconst (-1), 1) := by decide +kernel
theorem dX11_bestAddition_47 : decode cX11_bestAddition 47 = .ok (.if_icmp .eq 25, 3) := by decide +kernel
theorem dX11_bestAddition_50 : decode cX11_bestAddition 50 = .ok (.iload 4, 2) := by decide +kernel
theorem dX11_bestAddition_52 : decode cX11_bestAddition 52 = .ok (.iload_n 2, 1) := by decide +kernel
theorem dX11_bestAddition_53 : decode cX11_bestAddition 53 = .ok (.if_icmp .gt 19, 3) := by decide +kernel
theorem dX11_bestAddition_56 : decode cX11_bestAddition 56 = .ok (.iload 4, 2) := by decide +kernel
theorem dX11_bestAddition_58 : decode cX11_bestAddition 58 = .ok (.iload_n 2, 1) := by decide +kernel
theorem dX11_bestAddition_59 : decode cX11_bestAddition 59 = .ok (.if_icmp .ne 17, 3) := by decide +kernel
theorem dX11_bestAddition_62 : decode cX11_bestAddition 62 = .ok (.aload_n 0, 1) := by decide +kernel
theorem dX11_bestAddition_63 : decode cX11_bestAddition 63 = .ok (.getfield 19, 3) := by decide +kernel
theorem dX11_bestAddition_66 : decode cX11_bestAddition 66 = .ok (.iload_n 3, 1) := by decide +kernel
theorem dX11_bestAddition_67 : decode cX11_bestAddition 67 = .ok (.iaload, 1) := by decide +kernel
theorem dX11_bestAddition_68 : decode cX11_bestAddition 68 = .ok (.iload_n 1, 1) := by decide +kernel
theorem dX11_bestAddition_69 : decode cX11_bestAddition 69 = .ok (.if_icmp .ge 7, 3) := by decide +kernel
theorem dX11_bestAddition_72 : decode cX11_bestAddition 72 = .ok (.iconst 1, 1) := by decide +kernel
theorem dX11_bestAddition_73 : decode cX11_bestAddition 73 = .ok (.goto 4, 3) := by decide +kernel
theorem dX11_bestAddition_76 : decode cX11_bestAddition 76 = .ok (.iconst 0, 1) := by decide +kernel
theorem dX11_bestAddition_77 : decode cX11_bestAddition 77 = .ok (.istore 5, 2) := by decide +kernel
theorem dX11_bestAddition_79 : decode cX11_bestAddition 79 = .ok (.iload 5, 2) := by decide +kernel
theorem dX11_bestAddition_81 : decode cX11_bestAddition 81 = .ok (.ifCond .eq 12, 3) := by decide +kernel
theorem dX11_bestAddition_84 : decode cX11_bestAddition 84 = .ok (.aload_n 0, 1) := by decide +kernel
theorem dX11_bestAddition_85 : decode cX11_bestAddition 85 = .ok (.getfield 19, 3) := by decide +kernel
theorem dX11_bestAddition_88 : decode cX11_bestAddition 88 = .ok (.iload_n 3, 1) := by decide +kernel
theorem dX11_bestAddition_89 : decode cX11_bestAddition 89 = .ok (.iaload, 1) := by decide +kernel
theorem dX11_bestAddition_90 : decode cX11_bestAddition 90 = .ok (.goto 4, 3) := by decide +kernel
theorem dX11_bestAddition_93 : decode cX11_bestAddition 93 = .ok (.iload_n 1, 1) := by decide +kernel
theorem dX11_bestAddition_94 : decode cX11_bestAddition 94 = .ok (.istore_n 1, 1) := by decide +kernel
theorem dX11_bestAddition_95 : decode cX11_bestAddition 95 = .ok (.iload 5, 2) := by decide +kernel
theorem dX11_bestAddition_97 : decode cX11_bestAddition 97 = .ok (.ifCond .eq 8, 3) := by decide +kernel
theorem dX11_bestAddition_100 : decode cX11_bestAddition 100 = .ok (.iload 4, 2) := by decide +kernel
theorem dX11_bestAddition_102 : decode cX11_bestAddition 102 = .ok (.goto 4, 3) := by decide +kernel
theorem dX11_bestAddition_105 : decode cX11_bestAddition 105 = .ok (.iload_n 2, 1) := by decide +kernel
theorem dX11_bestAddition_106 : decode cX11_bestAddition 106 = .ok (.istore_n 2, 1) := by decide +kernel
theorem dX11_bestAddition_107 : decode cX11_bestAddition 107 = .ok (.iinc 3 1, 3) := by decide +kernel
theorem dX11_bestAddition_110 : decode cX11_bestAddition 110 = .ok (.goto (-85), 3) := by decide +kernel
theorem dX11_bestAddition_113 : decode cX11_bestAddition 113 = .ok (.iload_n 1, 1) := by decide +kernel
theorem dX11_bestAddition_114 : decode cX11_bestAddition 114 = .ok (.ireturn, 1) := by decide +kernel
theorem dX11_count_0 : decode cX11_count 0 = .ok (.iload_n 1, 1) := by decide +kernel
theorem dX11_count_1 : decode cX11_count 1 = .ok (.tableswitch 126 0 9 #[55, 62, 69, 74, 84, 93, 98, 107, 116, 121], 55) := by decide +kernel
theorem dX11_count_56 : decode cX11_count 56 = .ok (.aload_n 0, 1) := by decide +kernel
theorem dX11_count_57 : decode cX11_count 57 = .ok (.getfield 7, 3) := by decide +kernel
theorem dX11_count_60 : decode cX11_count 60 = .ok (.iconst 0, 1) := by decide +kernel
theorem dX11_count_61 : decode cX11_count 61 = .ok (.iaload, 1) := by decide +kernel
theorem dX11_count_62 : decode cX11_count 62 = .ok (.ireturn, 1) := by decide +kernel
theorem dX11_count_63 : decode cX11_count 63 = .ok (.aload_n 0, 1) := by decide +kernel
theorem dX11_count_64 : decode cX11_count 64 = .ok (.getfield 7, 3) := by decide +kernel
theorem dX11_count_67 : decode cX11_count 67 = .ok (.iconst 1, 1) := by decide +kernel
theorem dX11_count_68 : decode cX11_count 68 = .ok (.iaload, 1) := by decide +kernel
theorem dX11_count_69 : decode cX11_count 69 = .ok (.ireturn, 1) := by decide +kernel
theorem dX11_count_70 : decode cX11_count 70 = .ok (.aload_n 0, 1) := by decide +kernel
theorem dX11_count_71 : decode cX11_count 71 = .ok (.invokevirtual 112, 3) := by decide +kernel
theorem dX11_count_74 : decode cX11_count 74 = .ok (.ireturn, 1) := by decide +kernel
theorem dX11_count_75 : decode cX11_count 75 = .ok (.aload_n 0, 1) := by decide +kernel
theorem dX11_count_76 : decode cX11_count 76 = .ok (.invokevirtual 61, 3) := by decide +kernel
theorem dX11_count_79 : decode cX11_count 79 = .ok (.aload_n 0, 1) := by decide +kernel
theorem dX11_count_80 : decode cX11_count 80 = .ok (.invokevirtual 112, 3) := by decide +kernel
theorem dX11_count_83 : decode cX11_count 83 = .ok (.isub, 1) := by decide +kernel
theorem dX11_count_84 : decode cX11_count 84 = .ok (.ireturn, 1) := by decide +kernel
theorem dX11_count_85 : decode cX11_count 85 = .ok (.aload_n 0, 1) := by decide +kernel
theorem dX11_count_86 : decode cX11_count 86 = .ok (.getfield 7, 3) := by decide +kernel
theorem dX11_count_89 : decode cX11_count 89 = .ok (.sipush 258, 3) := by decide +kernel
theorem dX11_count_92 : decode cX11_count 92 = .ok (.iaload, 1) := by decide +kernel
theorem dX11_count_93 : decode cX11_count 93 = .ok (.ireturn, 1) := by decide +kernel
theorem dX11_count_94 : decode cX11_count 94 = .ok (.aload_n 0, 1) := by decide +kernel
theorem dX11_count_95 : decode cX11_count 95 = .ok (.invokevirtual 201, 3) := by decide +kernel
theorem dX11_count_98 : decode cX11_count 98 = .ok (.ireturn, 1) := by decide +kernel
theorem dX11_count_99 : decode cX11_count 99 = .ok (.aload_n 0, 1) := by decide +kernel
theorem dX11_count_100 : decode cX11_count 100 = .ok (.getfield 7, 3) := by decide +kernel
theorem dX11_count_103 : decode cX11_count 103 = .ok (.sipush 291, 3) := by decide +kernel
theorem dX11_count_106 : decode cX11_count 106 = .ok (.iaload, 1) := by decide +kernel
theorem dX11_count_107 : decode cX11_count 107 = .ok (.ireturn, 1) := by decide +kernel
theorem dX11_count_108 : decode cX11_count 108 = .ok (.aload_n 0, 1) := by decide +kernel
theorem dX11_count_109 : decode cX11_count 109 = .ok (.getfield 7, 3) := by decide +kernel
theorem dX11_count_112 : decode cX11_count 112 = .ok (.sipush 292, 3) := by decide +kernel
theorem dX11_count_115 : decode cX11_count 115 = .ok (.iaload, 1) := by decide +kernel
theorem dX11_count_116 : decode cX11_count 116 = .ok (.ireturn, 1) := by decide +kernel
theorem dX11_count_117 : decode cX11_count 117 = .ok (.aload_n 0, 1) := by decide +kernel
theorem dX11_count_118 : decode cX11_count 118 = .ok (.getfield 79, 3) := by decide +kernel
theorem dX11_count_121 : decode cX11_count 121 = .ok (.ireturn, 1) := by decide +kernel
theorem dX11_count_122 : decode cX11_count 122 = .ok (.aload_n 0, 1) := by decide +kernel
theorem dX11_count_123 : decode cX11_count 123 = .ok (.getfield 155, 3) := by decide +kernel
theorem dX11_count_126 : decode cX11_count 126 = .ok (.ireturn, 1) := by decide +kernel
theorem dX11_count_127 : decode cX11_count 127 = .ok (.bipush (-2), 2) := by decide +kernel
theorem dX11_count_129 : decode cX11_count 129 = .ok (.ireturn, 1) := by decide +kernel
theorem dX11_mixes_0 : decode cX11_mixes 0 = .ok (.aload_n 0, 1) := by decide +kernel
theorem dX11_mixes_1 : decode cX11_mixes 1 = .ok (.ldc2_w 281, 3) := by decide +kernel
theorem dX11_mixes_4 : decode cX11_mixes 4 = .ok (.aload_n 0, 1) := by decide +kernel
theorem dX11_mixes_5 : decode cX11_mixes 5 = .ok (.getfield 283, 3) := by decide +kernel
theorem dX11_mixes_8 : decode cX11_mixes 8 = .ok (.lmul, 1) := by decide +kernel
theorem dX11_mixes_9 : decode cX11_mixes 9 = .ok (.iload_n 1, 1) := by decide +kernel
theorem dX11_mixes_10 : decode cX11_mixes 10 = .ok (.i2l, 1) := by decide +kernel
theorem dX11_mixes_11 : decode cX11_mixes 11 = .ok (.ladd, 1) := by decide +kernel
theorem dX11_mixes_12 : decode cX11_mixes 12 = .ok (.putfield 283, 3) := by decide +kernel
theorem dX11_mixes_15 : decode cX11_mixes 15 = .ok (.return_, 1) := by decide +kernel
theorem dX11_digest_0 : decode cX11_digest 0 = .ok (.aload_n 0, 1) := by decide +kernel
theorem dX11_digest_1 : decode cX11_digest 1 = .ok (.ldc2_w 287, 3) := by decide +kernel
theorem dX11_digest_4 : decode cX11_digest 4 = .ok (.putfield 283, 3) := by decide +kernel
theorem dX11_digest_7 : decode cX11_digest 7 = .ok (.iconst 0, 1) := by decide +kernel
theorem dX11_digest_8 : decode cX11_digest 8 = .ok (.istore_n 1, 1) := by decide +kernel
theorem dX11_digest_9 : decode cX11_digest 9 = .ok (.iload_n 1, 1) := by decide +kernel
theorem dX11_digest_10 : decode cX11_digest 10 = .ok (.bipush 10, 2) := by decide +kernel
theorem dX11_digest_12 : decode cX11_digest 12 = .ok (.if_icmp .ge 18, 3) := by decide +kernel
theorem dX11_digest_15 : decode cX11_digest 15 = .ok (.aload_n 0, 1) := by decide +kernel
theorem dX11_digest_16 : decode cX11_digest 16 = .ok (.aload_n 0, 1) := by decide +kernel
theorem dX11_digest_17 : decode cX11_digest 17 = .ok (.iload_n 1, 1) := by decide +kernel
theorem dX11_digest_18 : decode cX11_digest 18 = .ok (.invokevirtual 289, 3) := by decide +kernel
theorem dX11_digest_21 : decode cX11_digest 21 = .ok (.invokevirtual 292, 3) := by decide +kernel
theorem dX11_digest_24 : decode cX11_digest 24 = .ok (.iinc 1 1, 3) := by decide +kernel
theorem dX11_digest_27 : decode cX11_digest 27 = .ok (.goto (-18), 3) := by decide +kernel
theorem dX11_digest_30 : decode cX11_digest 30 = .ok (.iconst 0, 1) := by decide +kernel
theorem dX11_digest_31 : decode cX11_digest 31 = .ok (.istore_n 1, 1) := by decide +kernel
theorem dX11_digest_32 : decode cX11_digest 32 = .ok (.iload_n 1, 1) := by decide +kernel
theorem dX11_digest_33 : decode cX11_digest 33 = .ok (.aload_n 0, 1) := by decide +kernel
theorem dX11_digest_34 : decode cX11_digest 34 = .ok (.invokevirtual 61, 3) := by decide +kernel
theorem dX11_digest_37 : decode cX11_digest 37 = .ok (.if_icmp .ge 21, 3) := by decide +kernel
theorem dX11_digest_40 : decode cX11_digest 40 = .ok (.aload_n 0, 1) := by decide +kernel
theorem dX11_digest_41 : decode cX11_digest 41 = .ok (.aload_n 0, 1) := by decide +kernel
theorem dX11_digest_42 : decode cX11_digest 42 = .ok (.getfield 7, 3) := by decide +kernel
theorem dX11_digest_45 : decode cX11_digest 45 = .ok (.iconst 2, 1) := by decide +kernel
theorem dX11_digest_46 : decode cX11_digest 46 = .ok (.iload_n 1, 1) := by decide +kernel
theorem dX11_digest_47 : decode cX11_digest 47 = .ok (.iadd, 1) := by decide +kernel
theorem dX11_digest_48 : decode cX11_digest 48 = .ok (.iaload, 1) := by decide +kernel
theorem dX11_digest_49 : decode cX11_digest 49 = .ok (.invokevirtual 292, 3) := by decide +kernel
theorem dX11_digest_52 : decode cX11_digest 52 = .ok (.iinc 1 1, 3) := by decide +kernel
theorem dX11_digest_55 : decode cX11_digest 55 = .ok (.goto (-23), 3) := by decide +kernel
theorem dX11_digest_58 : decode cX11_digest 58 = .ok (.iconst 0, 1) := by decide +kernel
theorem dX11_digest_59 : decode cX11_digest 59 = .ok (.istore_n 1, 1) := by decide +kernel
theorem dX11_digest_60 : decode cX11_digest 60 = .ok (.iload_n 1, 1) := by decide +kernel
theorem dX11_digest_61 : decode cX11_digest 61 = .ok (.iconst 4, 1) := by decide +kernel
theorem dX11_digest_62 : decode cX11_digest 62 = .ok (.aload_n 0, 1) := by decide +kernel
theorem dX11_digest_63 : decode cX11_digest 63 = .ok (.getfield 7, 3) := by decide +kernel
theorem dX11_digest_66 : decode cX11_digest 66 = .ok (.sipush 258, 3) := by decide +kernel
theorem dX11_digest_69 : decode cX11_digest 69 = .ok (.iaload, 1) := by decide +kernel
theorem dX11_digest_70 : decode cX11_digest 70 = .ok (.imul, 1) := by decide +kernel
theorem dX11_digest_71 : decode cX11_digest 71 = .ok (.if_icmp .ge 23, 3) := by decide +kernel
theorem dX11_digest_74 : decode cX11_digest 74 = .ok (.aload_n 0, 1) := by decide +kernel
theorem dX11_digest_75 : decode cX11_digest 75 = .ok (.aload_n 0, 1) := by decide +kernel
theorem dX11_digest_76 : decode cX11_digest 76 = .ok (.iload_n 1, 1) := by decide +kernel
theorem dX11_digest_77 : decode cX11_digest 77 = .ok (.iconst 4, 1) := by decide +kernel
theorem dX11_digest_78 : decode cX11_digest 78 = .ok (.idiv, 1) := by decide +kernel
theorem dX11_digest_79 : decode cX11_digest 79 = .ok (.iload_n 1, 1) := by decide +kernel
theorem dX11_digest_80 : decode cX11_digest 80 = .ok (.iconst 4, 1) := by decide +kernel
theorem dX11_digest_81 : decode cX11_digest 81 = .ok (.irem, 1) := by decide +kernel
theorem dX11_digest_82 : decode cX11_digest 82 = .ok (.invokevirtual 295, 3) := by decide +kernel
theorem dX11_digest_85 : decode cX11_digest 85 = .ok (.invokevirtual 292, 3) := by decide +kernel
theorem dX11_digest_88 : decode cX11_digest 88 = .ok (.iinc 1 1, 3) := by decide +kernel
theorem dX11_digest_91 : decode cX11_digest 91 = .ok (.goto (-31), 3) := by decide +kernel
theorem dX11_digest_94 : decode cX11_digest 94 = .ok (.aload_n 0, 1) := by decide +kernel
theorem dX11_digest_95 : decode cX11_digest 95 = .ok (.getfield 7, 3) := by decide +kernel
theorem dX11_digest_98 : decode cX11_digest 98 = .ok (.sipush 292, 3) := by decide +kernel
theorem dX11_digest_101 : decode cX11_digest 101 = .ok (.iaload, 1) := by decide +kernel
theorem dX11_digest_102 : decode cX11_digest 102 = .ok (.iconst 1, 1) := by decide +kernel
theorem dX11_digest_103 : decode cX11_digest 103 = .ok (.if_icmp .ne 65, 3) := by decide +kernel
theorem dX11_digest_106 : decode cX11_digest 106 = .ok (.iconst 0, 1) := by decide +kernel
theorem dX11_digest_107 : decode cX11_digest 107 = .ok (.istore_n 1, 1) := by decide +kernel
theorem dX11_digest_108 : decode cX11_digest 108 = .ok (.iload_n 1, 1) := by decide +kernel
theorem dX11_digest_109 : decode cX11_digest 109 = .ok (.aload_n 0, 1) := by decide +kernel
theorem dX11_digest_110 : decode cX11_digest 110 = .ok (.invokevirtual 61, 3) := by decide +kernel
theorem dX11_digest_113 : decode cX11_digest 113 = .ok (.if_icmp .ge 23, 3) := by decide +kernel
theorem dX11_digest_116 : decode cX11_digest 116 = .ok (.aload_n 0, 1) := by decide +kernel
theorem dX11_digest_117 : decode cX11_digest 117 = .ok (.aload_n 0, 1) := by decide +kernel
theorem dX11_digest_118 : decode cX11_digest 118 = .ok (.getfield 7, 3) := by decide +kernel
theorem dX11_digest_121 : decode cX11_digest 121 = .ok (.sipush 293, 3) := by decide +kernel
theorem dX11_digest_124 : decode cX11_digest 124 = .ok (.iload_n 1, 1) := by decide +kernel
theorem dX11_digest_125 : decode cX11_digest 125 = .ok (.iadd, 1) := by decide +kernel
theorem dX11_digest_126 : decode cX11_digest 126 = .ok (.iaload, 1) := by decide +kernel
theorem dX11_digest_127 : decode cX11_digest 127 = .ok (.invokevirtual 292, 3) := by decide +kernel
theorem dX11_digest_130 : decode cX11_digest 130 = .ok (.iinc 1 1, 3) := by decide +kernel
theorem dX11_digest_133 : decode cX11_digest 133 = .ok (.goto (-25), 3) := by decide +kernel
theorem dX11_digest_136 : decode cX11_digest 136 = .ok (.aload_n 0, 1) := by decide +kernel
theorem dX11_digest_137 : decode cX11_digest 137 = .ok (.aload_n 0, 1) := by decide +kernel
theorem dX11_digest_138 : decode cX11_digest 138 = .ok (.invokevirtual 268, 3) := by decide +kernel
theorem dX11_digest_141 : decode cX11_digest 141 = .ok (.invokevirtual 292, 3) := by decide +kernel
theorem dX11_digest_144 : decode cX11_digest 144 = .ok (.aload_n 0, 1) := by decide +kernel
theorem dX11_digest_145 : decode cX11_digest 145 = .ok (.aload_n 0, 1) := by decide +kernel
theorem dX11_digest_146 : decode cX11_digest 146 = .ok (.invokevirtual 298, 3) := by decide +kernel
theorem dX11_digest_149 : decode cX11_digest 149 = .ok (.invokevirtual 292, 3) := by decide +kernel
theorem dX11_digest_152 : decode cX11_digest 152 = .ok (.aload_n 0, 1) := by decide +kernel
theorem dX11_digest_153 : decode cX11_digest 153 = .ok (.aload_n 0, 1) := by decide +kernel
theorem dX11_digest_154 : decode cX11_digest 154 = .ok (.invokevirtual 301, 3) := by decide +kernel
theorem dX11_digest_157 : decode cX11_digest 157 = .ok (.invokevirtual 292, 3) := by decide +kernel
theorem dX11_digest_160 : decode cX11_digest 160 = .ok (.aload_n 0, 1) := by decide +kernel
theorem dX11_digest_161 : decode cX11_digest 161 = .ok (.aload_n 0, 1) := by decide +kernel
theorem dX11_digest_162 : decode cX11_digest 162 = .ok (.invokevirtual 304, 3) := by decide +kernel
theorem dX11_digest_165 : decode cX11_digest 165 = .ok (.invokevirtual 292, 3) := by decide +kernel
theorem dX11_digest_168 : decode cX11_digest 168 = .ok (.iconst 0, 1) := by decide +kernel
theorem dX11_digest_169 : decode cX11_digest 169 = .ok (.istore_n 1, 1) := by decide +kernel
theorem dX11_digest_170 : decode cX11_digest 170 = .ok (.iload_n 1, 1) := by decide +kernel
theorem dX11_digest_171 : decode cX11_digest 171 = .ok (.aload_n 0, 1) := by decide +kernel
theorem dX11_digest_172 : decode cX11_digest 172 = .ok (.getfield 155, 3) := by decide +kernel
theorem dX11_digest_175 : decode cX11_digest 175 = .ok (.if_icmp .ge 19, 3) := by decide +kernel
theorem dX11_digest_178 : decode cX11_digest 178 = .ok (.aload_n 0, 1) := by decide +kernel
theorem dX11_digest_179 : decode cX11_digest 179 = .ok (.aload_n 0, 1) := by decide +kernel
theorem dX11_digest_180 : decode cX11_digest 180 = .ok (.getfield 16, 3) := by decide +kernel
theorem dX11_digest_183 : decode cX11_digest 183 = .ok (.iload_n 1, 1) := by decide +kernel
theorem dX11_digest_184 : decode cX11_digest 184 = .ok (.iaload, 1) := by decide +kernel
theorem dX11_digest_185 : decode cX11_digest 185 = .ok (.invokevirtual 292, 3) := by decide +kernel
theorem dX11_digest_188 : decode cX11_digest 188 = .ok (.iinc 1 1, 3) := by decide +kernel
theorem dX11_digest_191 : decode cX11_digest 191 = .ok (.goto (-21), 3) := by decide +kernel
theorem dX11_digest_194 : decode cX11_digest 194 = .ok (.aload_n 0, 1) := by decide +kernel
theorem dX11_digest_195 : decode cX11_digest 195 = .ok (.getfield 283, 3) := by decide +kernel
theorem dX11_digest_198 : decode cX11_digest 198 = .ok (.lreturn, 1) := by decide +kernel
theorem dJ9_floorDiv_7cf53_0 : decode cJ9_floorDiv_7cf53 0 = .ok (.iload_n 0, 1) := by decide +kernel
theorem dJ9_floorDiv_7cf53_1 : decode cJ9_floorDiv_7cf53 1 = .ok (.iload_n 1, 1) := by decide +kernel
theorem dJ9_floorDiv_7cf53_2 : decode cJ9_floorDiv_7cf53 2 = .ok (.idiv, 1) := by decide +kernel
theorem dJ9_floorDiv_7cf53_3 : decode cJ9_floorDiv_7cf53 3 = .ok (.istore_n 2, 1) := by decide +kernel
theorem dJ9_floorDiv_7cf53_4 : decode cJ9_floorDiv_7cf53 4 = .ok (.iload_n 0, 1) := by decide +kernel
theorem dJ9_floorDiv_7cf53_5 : decode cJ9_floorDiv_7cf53 5 = .ok (.iload_n 1, 1) := by decide +kernel
theorem dJ9_floorDiv_7cf53_6 : decode cJ9_floorDiv_7cf53 6 = .ok (.ixor, 1) := by decide +kernel
theorem dJ9_floorDiv_7cf53_7 : decode cJ9_floorDiv_7cf53 7 = .ok (.ifCond .ge 14, 3) := by decide +kernel
theorem dJ9_floorDiv_7cf53_10 : decode cJ9_floorDiv_7cf53 10 = .ok (.iload_n 2, 1) := by decide +kernel
theorem dJ9_floorDiv_7cf53_11 : decode cJ9_floorDiv_7cf53 11 = .ok (.iload_n 1, 1) := by decide +kernel
theorem dJ9_floorDiv_7cf53_12 : decode cJ9_floorDiv_7cf53 12 = .ok (.imul, 1) := by decide +kernel
theorem dJ9_floorDiv_7cf53_13 : decode cJ9_floorDiv_7cf53 13 = .ok (.iload_n 0, 1) := by decide +kernel
theorem dJ9_floorDiv_7cf53_14 : decode cJ9_floorDiv_7cf53 14 = .ok (.if_icmp .eq 7, 3) := by decide +kernel
theorem dJ9_floorDiv_7cf53_17 : decode cJ9_floorDiv_7cf53 17 = .ok (.iload_n 2, 1) := by decide +kernel
theorem dJ9_floorDiv_7cf53_18 : decode cJ9_floorDiv_7cf53 18 = .ok (.iconst 1, 1) := by decide +kernel
theorem dJ9_floorDiv_7cf53_19 : decode cJ9_floorDiv_7cf53 19 = .ok (.isub, 1) := by decide +kernel
theorem dJ9_floorDiv_7cf53_20 : decode cJ9_floorDiv_7cf53 20 = .ok (.ireturn, 1) := by decide +kernel
theorem dJ9_floorDiv_7cf53_21 : decode cJ9_floorDiv_7cf53 21 = .ok (.iload_n 2, 1) := by decide +kernel
theorem dJ9_floorDiv_7cf53_22 : decode cJ9_floorDiv_7cf53 22 = .ok (.ireturn, 1) := by decide +kernel
theorem dJ9_max_7cf53_0 : decode cJ9_max_7cf53 0 = .ok (.iload_n 0, 1) := by decide +kernel
theorem dJ9_max_7cf53_1 : decode cJ9_max_7cf53 1 = .ok (.iload_n 1, 1) := by decide +kernel
theorem dJ9_max_7cf53_2 : decode cJ9_max_7cf53 2 = .ok (.if_icmp .lt 7, 3) := by decide +kernel
theorem dJ9_max_7cf53_5 : decode cJ9_max_7cf53 5 = .ok (.iload_n 0, 1) := by decide +kernel
theorem dJ9_max_7cf53_6 : decode cJ9_max_7cf53 6 = .ok (.goto 4, 3) := by decide +kernel
theorem dJ9_max_7cf53_9 : decode cJ9_max_7cf53 9 = .ok (.iload_n 1, 1) := by decide +kernel
theorem dJ9_max_7cf53_10 : decode cJ9_max_7cf53 10 = .ok (.ireturn, 1) := by decide +kernel
theorem dJ9_min_7cf53_0 : decode cJ9_min_7cf53 0 = .ok (.iload_n 0, 1) := by decide +kernel
theorem dJ9_min_7cf53_1 : decode cJ9_min_7cf53 1 = .ok (.iload_n 1, 1) := by decide +kernel
theorem dJ9_min_7cf53_2 : decode cJ9_min_7cf53 2 = .ok (.if_icmp .gt 7, 3) := by decide +kernel
theorem dJ9_min_7cf53_5 : decode cJ9_min_7cf53 5 = .ok (.iload_n 0, 1) := by decide +kernel
theorem dJ9_min_7cf53_6 : decode cJ9_min_7cf53 6 = .ok (.goto 4, 3) := by decide +kernel
theorem dJ9_min_7cf53_9 : decode cJ9_min_7cf53 9 = .ok (.iload_n 1, 1) := by decide +kernel
theorem dJ9_min_7cf53_10 : decode cJ9_min_7cf53 10 = .ok (.ireturn, 1) := by decide +kernel
theorem dL_law_0 : decode cL_law 0 = .ok (.new 7, 3) := by decide +kernel
theorem dL_law_3 : decode cL_law 3 = .ok (.dup, 1) := by decide +kernel
theorem dL_law_4 : decode cL_law 4 = .ok (.invokespecial 9, 3) := by decide +kernel
theorem dL_law_7 : decode cL_law 7 = .ok (.astore_n 1, 1) := by decide +kernel
theorem dL_law_8 : decode cL_law 8 = .ok (.new 10, 3) := by decide +kernel
theorem dL_law_11 : decode cL_law 11 = .ok (.dup, 1) := by decide +kernel
theorem dL_law_12 : decode cL_law 12 = .ok (.invokespecial 12, 3) := by decide +kernel
theorem dL_law_15 : decode cL_law 15 = .ok (.astore_n 2, 1) := by decide +kernel
theorem dL_law_16 : decode cL_law 16 = .ok (.iconst 0, 1) := by decide +kernel
theorem dL_law_17 : decode cL_law 17 = .ok (.istore_n 3, 1) := by decide +kernel
theorem dL_law_18 : decode cL_law 18 = .ok (.iload_n 3, 1) := by decide +kernel
theorem dL_law_19 : decode cL_law 19 = .ok (.aload_n 0, 1) := by decide +kernel
theorem dL_law_20 : decode cL_law 20 = .ok (.arraylength, 1) := by decide +kernel
theorem dL_law_21 : decode cL_law 21 = .ok (.bipush 6, 2) := by decide +kernel
theorem dL_law_23 : decode cL_law 23 = .ok (.isub, 1) := by decide +kernel
theorem dL_law_24 : decode cL_law 24 = .ok (.if_icmp .gt 1118, 3) := by decide +kernel
theorem dL_law_27 : decode cL_law 27 = .ok (.aload_n 0, 1) := by decide +kernel
theorem dL_law_28 : decode cL_law 28 = .ok (.iload_n 3, 1) := by decide +kernel
theorem dL_law_29 : decode cL_law 29 = .ok (.iaload, 1) := by decide +kernel
theorem dL_law_30 : decode cL_law 30 = .ok (.bipush 63, 2) := by decide +kernel
theorem dL_law_32 : decode cL_law 32 = .ok (.iand, 1) := by decide +kernel
theorem dL_law_33 : decode cL_law 33 = .ok (.tableswitch 1103 0 36 #[163, 196, 259, 318, 351, 384, 397, 430, 479, 502, 551, 584, 607, 640, 663, 686, 699, 712, 725, 758, 781, 804, 827, 860, 893, 906, 919, 932, 945, 968, 981, 1004, 1017, 1040, 1053, 1066, 1089], 163) := by decide +kernel
theorem dL_law_196 : decode cL_law 196 = .ok (.aload_n 1, 1) := by decide +kernel
theorem dL_law_197 : decode cL_law 197 = .ok (.aload_n 0, 1) := by decide +kernel
theorem dL_law_198 : decode cL_law 198 = .ok (.iload_n 3, 1) := by decide +kernel
theorem dL_law_199 : decode cL_law 199 = .ok (.iconst 1, 1) := by decide +kernel
theorem dL_law_200 : decode cL_law 200 = .ok (.iadd, 1) := by decide +kernel
theorem dL_law_201 : decode cL_law 201 = .ok (.iaload, 1) := by decide +kernel
theorem dL_law_202 : decode cL_law 202 = .ok (.aload_n 0, 1) := by decide +kernel
theorem dL_law_203 : decode cL_law 203 = .ok (.iload_n 3, 1) := by decide +kernel
theorem dL_law_204 : decode cL_law 204 = .ok (.iconst 2, 1) := by decide +kernel
theorem dL_law_205 : decode cL_law 205 = .ok (.iadd, 1) := by decide +kernel
theorem dL_law_206 : decode cL_law 206 = .ok (.iaload, 1) := by decide +kernel
theorem dL_law_207 : decode cL_law 207 = .ok (.invokevirtual 13, 3) := by decide +kernel
theorem dL_law_210 : decode cL_law 210 = .ok (.aload_n 2, 1) := by decide +kernel
theorem dL_law_211 : decode cL_law 211 = .ok (.aload_n 0, 1) := by decide +kernel
theorem dL_law_212 : decode cL_law 212 = .ok (.iload_n 3, 1) := by decide +kernel
theorem dL_law_213 : decode cL_law 213 = .ok (.iconst 1, 1) := by decide +kernel
theorem dL_law_214 : decode cL_law 214 = .ok (.iadd, 1) := by decide +kernel
theorem dL_law_215 : decode cL_law 215 = .ok (.iaload, 1) := by decide +kernel
theorem dL_law_216 : decode cL_law 216 = .ok (.aload_n 0, 1) := by decide +kernel
theorem dL_law_217 : decode cL_law 217 = .ok (.iload_n 3, 1) := by decide +kernel
theorem dL_law_218 : decode cL_law 218 = .ok (.iconst 2, 1) := by decide +kernel
theorem dL_law_219 : decode cL_law 219 = .ok (.iadd, 1) := by decide +kernel
theorem dL_law_220 : decode cL_law 220 = .ok (.iaload, 1) := by decide +kernel
theorem dL_law_221 : decode cL_law 221 = .ok (.invokevirtual 17, 3) := by decide +kernel
theorem dL_law_224 : decode cL_law 224 = .ok (.if_icmp .eq 912, 3) := by decide +kernel
theorem dL_law_227 : decode cL_law 227 = .ok (.iconst 0, 1) := by decide +kernel
theorem dL_law_228 : decode cL_law 228 = .ok (.ireturn, 1) := by decide +kernel
theorem dL_law_229 : decode cL_law 229 = .ok (.aload_n 1, 1) := by decide +kernel
theorem dL_law_230 : decode cL_law 230 = .ok (.aload_n 0, 1) := by decide +kernel
theorem dL_law_231 : decode cL_law 231 = .ok (.iload_n 3, 1) := by decide +kernel
theorem dL_law_232 : decode cL_law 232 = .ok (.iconst 1, 1) := by decide +kernel
theorem dL_law_233 : decode cL_law 233 = .ok (.iadd, 1) := by decide +kernel
theorem dL_law_234 : decode cL_law 234 = .ok (.iaload, 1) := by decide +kernel
theorem dL_law_235 : decode cL_law 235 = .ok (.aload_n 0, 1) := by decide +kernel
theorem dL_law_236 : decode cL_law 236 = .ok (.iload_n 3, 1) := by decide +kernel
theorem dL_law_237 : decode cL_law 237 = .ok (.iconst 2, 1) := by decide +kernel
theorem dL_law_238 : decode cL_law 238 = .ok (.iadd, 1) := by decide +kernel
theorem dL_law_239 : decode cL_law 239 = .ok (.iaload, 1) := by decide +kernel
theorem dL_law_240 : decode cL_law 240 = .ok (.aload_n 0, 1) := by decide +kernel
theorem dL_law_241 : decode cL_law 241 = .ok (.iload_n 3, 1) := by decide +kernel
theorem dL_law_242 : decode cL_law 242 = .ok (.iconst 3, 1) := by decide +kernel
theorem dL_law_243 : decode cL_law 243 = .ok (.iadd, 1) := by decide +kernel
theorem dL_law_244 : decode cL_law 244 = .ok (.iaload, 1) := by decide +kernel
theorem dL_law_245 : decode cL_law 245 = .ok (.aload_n 0, 1) := by decide +kernel
theorem dL_law_246 : decode cL_law 246 = .ok (.iload_n 3, 1) := by decide +kernel
theorem dL_law_247 : decode cL_law 247 = .ok (.iconst 4, 1) := by decide +kernel
theorem dL_law_248 : decode cL_law 248 = .ok (.iadd, 1) := by decide +kernel
theorem dL_law_249 : decode cL_law 249 = .ok (.iaload, 1) := by decide +kernel
theorem dL_law_250 : decode cL_law 250 = .ok (.aload_n 0, 1) := by decide +kernel
theorem dL_law_251 : decode cL_law 251 = .ok (.iload_n 3, 1) := by decide +kernel
theorem dL_law_252 : decode cL_law 252 = .ok (.iconst 5, 1) := by decide +kernel
theorem dL_law_253 : decode cL_law 253 = .ok (.iadd, 1) := by decide +kernel
theorem dL_law_254 : decode cL_law 254 = .ok (.iaload, 1) := by decide +kernel
theorem dL_law_255 : decode cL_law 255 = .ok (.invokevirtual 18, 3) := by decide +kernel
theorem dL_law_258 : decode cL_law 258 = .ok (.aload_n 2, 1) := by decide +kernel
theorem dL_law_259 : decode cL_law 259 = .ok (.aload_n 0, 1) := by decide +kernel
theorem dL_law_260 : decode cL_law 260 = .ok (.iload_n 3, 1) := by decide +kernel
theorem dL_law_261 : decode cL_law 261 = .ok (.iconst 1, 1) := by decide +kernel
theorem dL_law_262 : decode cL_law 262 = .ok (.iadd, 1) := by decide +kernel
theorem dL_law_263 : decode cL_law 263 = .ok (.iaload, 1) := by decide +kernel
theorem dL_law_264 : decode cL_law 264 = .ok (.aload_n 0, 1) := by decide +kernel
theorem dL_law_265 : decode cL_law 265 = .ok (.iload_n 3, 1) := by decide +kernel
theorem dL_law_266 : decode cL_law 266 = .ok (.iconst 2, 1) := by decide +kernel
theorem dL_law_267 : decode cL_law 267 = .ok (.iadd, 1) := by decide +kernel
theorem dL_law_268 : decode cL_law 268 = .ok (.iaload, 1) := by decide +kernel
theorem dL_law_269 : decode cL_law 269 = .ok (.aload_n 0, 1) := by decide +kernel
theorem dL_law_270 : decode cL_law 270 = .ok (.iload_n 3, 1) := by decide +kernel
theorem dL_law_271 : decode cL_law 271 = .ok (.iconst 3, 1) := by decide +kernel
theorem dL_law_272 : decode cL_law 272 = .ok (.iadd, 1) := by decide +kernel
theorem dL_law_273 : decode cL_law 273 = .ok (.iaload, 1) := by decide +kernel
theorem dL_law_274 : decode cL_law 274 = .ok (.aload_n 0, 1) := by decide +kernel
theorem dL_law_275 : decode cL_law 275 = .ok (.iload_n 3, 1) := by decide +kernel
theorem dL_law_276 : decode cL_law 276 = .ok (.iconst 4, 1) := by decide +kernel
theorem dL_law_277 : decode cL_law 277 = .ok (.iadd, 1) := by decide +kernel
theorem dL_law_278 : decode cL_law 278 = .ok (.iaload, 1) := by decide +kernel
theorem dL_law_279 : decode cL_law 279 = .ok (.aload_n 0, 1) := by decide +kernel
theorem dL_law_280 : decode cL_law 280 = .ok (.iload_n 3, 1) := by decide +kernel
theorem dL_law_281 : decode cL_law 281 = .ok (.iconst 5, 1) := by decide +kernel
theorem dL_law_282 : decode cL_law 282 = .ok (.iadd, 1) := by decide +kernel
theorem dL_law_283 : decode cL_law 283 = .ok (.iaload, 1) := by decide +kernel
theorem dL_law_284 : decode cL_law 284 = .ok (.invokevirtual 22, 3) := by decide +kernel
theorem dL_law_287 : decode cL_law 287 = .ok (.if_icmp .eq 849, 3) := by decide +kernel
theorem dL_law_290 : decode cL_law 290 = .ok (.iconst 0, 1) := by decide +kernel
theorem dL_law_291 : decode cL_law 291 = .ok (.ireturn, 1) := by decide +kernel
theorem dL_law_292 : decode cL_law 292 = .ok (.aload_n 1, 1) := by decide +kernel
theorem dL_law_293 : decode cL_law 293 = .ok (.aload_n 0, 1) := by decide +kernel
theorem dL_law_294 : decode cL_law 294 = .ok (.iload_n 3, 1) := by decide +kernel
theorem dL_law_295 : decode cL_law 295 = .ok (.iconst 1, 1) := by decide +kernel
theorem dL_law_296 : decode cL_law 296 = .ok (.iadd, 1) := by decide +kernel
theorem dL_law_297 : decode cL_law 297 = .ok (.iaload, 1) := by decide +kernel
theorem dL_law_298 : decode cL_law 298 = .ok (.aload_n 0, 1) := by decide +kernel
theorem dL_law_299 : decode cL_law 299 = .ok (.iload_n 3, 1) := by decide +kernel
theorem dL_law_300 : decode cL_law 300 = .ok (.iconst 2, 1) := by decide +kernel
theorem dL_law_301 : decode cL_law 301 = .ok (.iadd, 1) := by decide +kernel
theorem dL_law_302 : decode cL_law 302 = .ok (.iaload, 1) := by decide +kernel
theorem dL_law_303 : decode cL_law 303 = .ok (.aload_n 0, 1) := by decide +kernel
theorem dL_law_304 : decode cL_law 304 = .ok (.iload_n 3, 1) := by decide +kernel
theorem dL_law_305 : decode cL_law 305 = .ok (.iconst 3, 1) := by decide +kernel
theorem dL_law_306 : decode cL_law 306 = .ok (.iadd, 1) := by decide +kernel
theorem dL_law_307 : decode cL_law 307 = .ok (.iaload, 1) := by decide +kernel
theorem dL_law_308 : decode cL_law 308 = .ok (.ifCond .eq 7, 3) := by decide +kernel
theorem dL_law_311 : decode cL_law 311 = .ok (.iconst 1, 1) := by decide +kernel
theorem dL_law_312 : decode cL_law 312 = .ok (.goto 4, 3) := by decide +kernel
theorem dL_law_315 : decode cL_law 315 = .ok (.iconst 0, 1) := by decide +kernel
theorem dL_law_316 : decode cL_law 316 = .ok (.invokevirtual 23, 3) := by decide +kernel
theorem dL_law_319 : decode cL_law 319 = .ok (.aload_n 2, 1) := by decide +kernel
theorem dL_law_320 : decode cL_law 320 = .ok (.aload_n 0, 1) := by decide +kernel
theorem dL_law_321 : decode cL_law 321 = .ok (.iload_n 3, 1) := by decide +kernel
theorem dL_law_322 : decode cL_law 322 = .ok (.iconst 1, 1) := by decide +kernel
theorem dL_law_323 : decode cL_law 323 = .ok (.iadd, 1) := by decide +kernel
theorem dL_law_324 : decode cL_law 324 = .ok (.iaload, 1) := by decide +kernel
theorem dL_law_325 : decode cL_law 325 = .ok (.aload_n 0, 1) := by decide +kernel
theorem dL_law_326 : decode cL_law 326 = .ok (.iload_n 3, 1) := by decide +kernel
theorem dL_law_327 : decode cL_law 327 = .ok (.iconst 2, 1) := by decide +kernel
theorem dL_law_328 : decode cL_law 328 = .ok (.iadd, 1) := by decide +kernel
theorem dL_law_329 : decode cL_law 329 = .ok (.iaload, 1) := by decide +kernel
theorem dL_law_330 : decode cL_law 330 = .ok (.aload_n 0, 1) := by decide +kernel
theorem dL_law_331 : decode cL_law 331 = .ok (.iload_n 3, 1) := by decide +kernel
theorem dL_law_332 : decode cL_law 332 = .ok (.iconst 3, 1) := by decide +kernel
theorem dL_law_333 : decode cL_law 333 = .ok (.iadd, 1) := by decide +kernel
theorem dL_law_334 : decode cL_law 334 = .ok (.iaload, 1) := by decide +kernel
theorem dL_law_335 : decode cL_law 335 = .ok (.ifCond .eq 7, 3) := by decide +kernel
theorem dL_law_338 : decode cL_law 338 = .ok (.iconst 1, 1) := by decide +kernel
theorem dL_law_339 : decode cL_law 339 = .ok (.goto 4, 3) := by decide +kernel
theorem dL_law_342 : decode cL_law 342 = .ok (.iconst 0, 1) := by decide +kernel
theorem dL_law_343 : decode cL_law 343 = .ok (.invokevirtual 27, 3) := by decide +kernel
theorem dL_law_346 : decode cL_law 346 = .ok (.if_icmp .eq 790, 3) := by decide +kernel
theorem dL_law_349 : decode cL_law 349 = .ok (.iconst 0, 1) := by decide +kernel
theorem dL_law_350 : decode cL_law 350 = .ok (.ireturn, 1) := by decide +kernel
theorem dL_law_351 : decode cL_law 351 = .ok (.aload_n 1, 1) := by decide +kernel
theorem dL_law_352 : decode cL_law 352 = .ok (.aload_n 0, 1) := by decide +kernel
theorem dL_law_353 : decode cL_law 353 = .ok (.iload_n 3, 1) := by decide +kernel
theorem dL_law_354 : decode cL_law 354 = .ok (.iconst 1, 1) := by decide +kernel
theorem dL_law_355 : decode cL_law 355 = .ok (.iadd, 1) := by decide +kernel
theorem dL_law_356 : decode cL_law 356 = .ok (.iaload, 1) := by decide +kernel
theorem dL_law_357 : decode cL_law 357 = .ok (.aload_n 0, 1) := by decide +kernel
theorem dL_law_358 : decode cL_law 358 = .ok (.iload_n 3, 1) := by decide +kernel
theorem dL_law_359 : decode cL_law 359 = .ok (.iconst 2, 1) := by decide +kernel
theorem dL_law_360 : decode cL_law 360 = .ok (.iadd, 1) := by decide +kernel
theorem dL_law_361 : decode cL_law 361 = .ok (.iaload, 1) := by decide +kernel
theorem dL_law_362 : decode cL_law 362 = .ok (.invokevirtual 28, 3) := by decide +kernel
theorem dL_law_365 : decode cL_law 365 = .ok (.aload_n 2, 1) := by decide +kernel
theorem dL_law_366 : decode cL_law 366 = .ok (.aload_n 0, 1) := by decide +kernel
theorem dL_law_367 : decode cL_law 367 = .ok (.iload_n 3, 1) := by decide +kernel
theorem dL_law_368 : decode cL_law 368 = .ok (.iconst 1, 1) := by decide +kernel
theorem dL_law_369 : decode cL_law 369 = .ok (.iadd, 1) := by decide +kernel
theorem dL_law_370 : decode cL_law 370 = .ok (.iaload, 1) := by decide +kernel
theorem dL_law_371 : decode cL_law 371 = .ok (.aload_n 0, 1) := by decide +kernel
theorem dL_law_372 : decode cL_law 372 = .ok (.iload_n 3, 1) := by decide +kernel
theorem dL_law_373 : decode cL_law 373 = .ok (.iconst 2, 1) := by decide +kernel
theorem dL_law_374 : decode cL_law 374 = .ok (.iadd, 1) := by decide +kernel
theorem dL_law_375 : decode cL_law 375 = .ok (.iaload, 1) := by decide +kernel
theorem dL_law_376 : decode cL_law 376 = .ok (.invokevirtual 31, 3) := by decide +kernel
theorem dL_law_379 : decode cL_law 379 = .ok (.if_icmp .eq 757, 3) := by decide +kernel
theorem dL_law_382 : decode cL_law 382 = .ok (.iconst 0, 1) := by decide +kernel
theorem dL_law_383 : decode cL_law 383 = .ok (.ireturn, 1) := by decide +kernel
theorem dL_law_384 : decode cL_law 384 = .ok (.aload_n 1, 1) := by decide +kernel
theorem dL_law_385 : decode cL_law 385 = .ok (.aload_n 0, 1) := by decide +kernel
theorem dL_law_386 : decode cL_law 386 = .ok (.iload_n 3, 1) := by decide +kernel
theorem dL_law_387 : decode cL_law 387 = .ok (.iconst 1, 1) := by decide +kernel
theorem dL_law_388 : decode cL_law 388 = .ok (.iadd, 1) := by decide +kernel
theorem dL_law_389 : decode cL_law 389 = .ok (.iaload, 1) := by decide +kernel
theorem dL_law_390 : decode cL_law 390 = .ok (.aload_n 0, 1) := by decide +kernel
theorem dL_law_391 : decode cL_law 391 = .ok (.iload_n 3, 1) := by decide +kernel
theorem dL_law_392 : decode cL_law 392 = .ok (.iconst 2, 1) := by decide +kernel
theorem dL_law_393 : decode cL_law 393 = .ok (.iadd, 1) := by decide +kernel
theorem dL_law_394 : decode cL_law 394 = .ok (.iaload, 1) := by decide +kernel
theorem dL_law_395 : decode cL_law 395 = .ok (.invokevirtual 32, 3) := by decide +kernel
theorem dL_law_398 : decode cL_law 398 = .ok (.aload_n 2, 1) := by decide +kernel
theorem dL_law_399 : decode cL_law 399 = .ok (.aload_n 0, 1) := by decide +kernel
theorem dL_law_400 : decode cL_law 400 = .ok (.iload_n 3, 1) := by decide +kernel
theorem dL_law_401 : decode cL_law 401 = .ok (.iconst 1, 1) := by decide +kernel
theorem dL_law_402 : decode cL_law 402 = .ok (.iadd, 1) := by decide +kernel
theorem dL_law_403 : decode cL_law 403 = .ok (.iaload, 1) := by decide +kernel
theorem dL_law_404 : decode cL_law 404 = .ok (.aload_n 0, 1) := by decide +kernel
theorem dL_law_405 : decode cL_law 405 = .ok (.iload_n 3, 1) := by decide +kernel
theorem dL_law_406 : decode cL_law 406 = .ok (.iconst 2, 1) := by decide +kernel
theorem dL_law_407 : decode cL_law 407 = .ok (.iadd, 1) := by decide +kernel
theorem dL_law_408 : decode cL_law 408 = .ok (.iaload, 1) := by decide +kernel
theorem dL_law_409 : decode cL_law 409 = .ok (.invokevirtual 35, 3) := by decide +kernel
theorem dL_law_412 : decode cL_law 412 = .ok (.if_icmp .eq 724, 3) := by decide +kernel
theorem dL_law_415 : decode cL_law 415 = .ok (.iconst 0, 1) := by decide +kernel
theorem dL_law_416 : decode cL_law 416 = .ok (.ireturn, 1) := by decide +kernel
theorem dL_law_417 : decode cL_law 417 = .ok (.aload_n 1, 1) := by decide +kernel
theorem dL_law_418 : decode cL_law 418 = .ok (.invokevirtual 36, 3) := by decide +kernel
theorem dL_law_421 : decode cL_law 421 = .ok (.aload_n 2, 1) := by decide +kernel
theorem dL_law_422 : decode cL_law 422 = .ok (.invokevirtual 40, 3) := by decide +kernel
theorem dL_law_425 : decode cL_law 425 = .ok (.if_icmp .eq 711, 3) := by decide +kernel
theorem dL_law_428 : decode cL_law 428 = .ok (.iconst 0, 1) := by decide +kernel
theorem dL_law_429 : decode cL_law 429 = .ok (.ireturn, 1) := by decide +kernel
theorem dL_law_430 : decode cL_law 430 = .ok (.aload_n 1, 1) := by decide +kernel
theorem dL_law_431 : decode cL_law 431 = .ok (.aload_n 0, 1) := by decide +kernel
theorem dL_law_432 : decode cL_law 432 = .ok (.iload_n 3, 1) := by decide +kernel
theorem dL_law_433 : decode cL_law 433 = .ok (.iconst 1, 1) := by decide +kernel
theorem dL_law_434 : decode cL_law 434 = .ok (.iadd, 1) := by decide +kernel
theorem dL_law_435 : decode cL_law 435 = .ok (.iaload, 1) := by decide +kernel
theorem dL_law_436 : decode cL_law 436 = .ok (.aload_n 0, 1) := by decide +kernel
theorem dL_law_437 : decode cL_law 437 = .ok (.iload_n 3, 1) := by decide +kernel
theorem dL_law_438 : decode cL_law 438 = .ok (.iconst 2, 1) := by decide +kernel
theorem dL_law_439 : decode cL_law 439 = .ok (.iadd, 1) := by decide +kernel
theorem dL_law_440 : decode cL_law 440 = .ok (.iaload, 1) := by decide +kernel
theorem dL_law_441 : decode cL_law 441 = .ok (.invokevirtual 41, 3) := by decide +kernel
theorem dL_law_444 : decode cL_law 444 = .ok (.aload_n 2, 1) := by decide +kernel
theorem dL_law_445 : decode cL_law 445 = .ok (.aload_n 0, 1) := by decide +kernel
theorem dL_law_446 : decode cL_law 446 = .ok (.iload_n 3, 1) := by decide +kernel
theorem dL_law_447 : decode cL_law 447 = .ok (.iconst 1, 1) := by decide +kernel
theorem dL_law_448 : decode cL_law 448 = .ok (.iadd, 1) := by decide +kernel
theorem dL_law_449 : decode cL_law 449 = .ok (.iaload, 1) := by decide +kernel
theorem dL_law_450 : decode cL_law 450 = .ok (.aload_n 0, 1) := by decide +kernel
theorem dL_law_451 : decode cL_law 451 = .ok (.iload_n 3, 1) := by decide +kernel
theorem dL_law_452 : decode cL_law 452 = .ok (.iconst 2, 1) := by decide +kernel
theorem dL_law_453 : decode cL_law 453 = .ok (.iadd, 1) := by decide +kernel
theorem dL_law_454 : decode cL_law 454 = .ok (.iaload, 1) := by decide +kernel
theorem dL_law_455 : decode cL_law 455 = .ok (.invokevirtual 44, 3) := by decide +kernel
theorem dL_law_458 : decode cL_law 458 = .ok (.if_icmp .eq 678, 3) := by decide +kernel
theorem dL_law_461 : decode cL_law 461 = .ok (.iconst 0, 1) := by decide +kernel
theorem dL_law_462 : decode cL_law 462 = .ok (.ireturn, 1) := by decide +kernel
theorem dL_law_463 : decode cL_law 463 = .ok (.aload_n 1, 1) := by decide +kernel
theorem dL_law_464 : decode cL_law 464 = .ok (.aload_n 0, 1) := by decide +kernel
theorem dL_law_465 : decode cL_law 465 = .ok (.iload_n 3, 1) := by decide +kernel
theorem dL_law_466 : decode cL_law 466 = .ok (.iconst 1, 1) := by decide +kernel
theorem dL_law_467 : decode cL_law 467 = .ok (.iadd, 1) := by decide +kernel
theorem dL_law_468 : decode cL_law 468 = .ok (.iaload, 1) := by decide +kernel
theorem dL_law_469 : decode cL_law 469 = .ok (.aload_n 0, 1) := by decide +kernel
theorem dL_law_470 : decode cL_law 470 = .ok (.iload_n 3, 1) := by decide +kernel
theorem dL_law_471 : decode cL_law 471 = .ok (.iconst 2, 1) := by decide +kernel
theorem dL_law_472 : decode cL_law 472 = .ok (.iadd, 1) := by decide +kernel
theorem dL_law_473 : decode cL_law 473 = .ok (.iaload, 1) := by decide +kernel
theorem dL_law_474 : decode cL_law 474 = .ok (.ifCond .eq 7, 3) := by decide +kernel
theorem dL_law_477 : decode cL_law 477 = .ok (.iconst 1, 1) := by decide +kernel
theorem dL_law_478 : decode cL_law 478 = .ok (.goto 4, 3) := by decide +kernel
theorem dL_law_481 : decode cL_law 481 = .ok (.iconst 0, 1) := by decide +kernel
theorem dL_law_482 : decode cL_law 482 = .ok (.invokevirtual 45, 3) := by decide +kernel
theorem dL_law_485 : decode cL_law 485 = .ok (.aload_n 2, 1) := by decide +kernel
theorem dL_law_486 : decode cL_law 486 = .ok (.aload_n 0, 1) := by decide +kernel
theorem dL_law_487 : decode cL_law 487 = .ok (.iload_n 3, 1) := by decide +kernel
theorem dL_law_488 : decode cL_law 488 = .ok (.iconst 1, 1) := by decide +kernel
theorem dL_law_489 : decode cL_law 489 = .ok (.iadd, 1) := by decide +kernel
theorem dL_law_490 : decode cL_law 490 = .ok (.iaload, 1) := by decide +kernel
theorem dL_law_491 : decode cL_law 491 = .ok (.aload_n 0, 1) := by decide +kernel
theorem dL_law_492 : decode cL_law 492 = .ok (.iload_n 3, 1) := by decide +kernel
theorem dL_law_493 : decode cL_law 493 = .ok (.iconst 2, 1) := by decide +kernel
theorem dL_law_494 : decode cL_law 494 = .ok (.iadd, 1) := by decide +kernel
theorem dL_law_495 : decode cL_law 495 = .ok (.iaload, 1) := by decide +kernel
theorem dL_law_496 : decode cL_law 496 = .ok (.ifCond .eq 7, 3) := by decide +kernel
theorem dL_law_499 : decode cL_law 499 = .ok (.iconst 1, 1) := by decide +kernel
theorem dL_law_500 : decode cL_law 500 = .ok (.goto 4, 3) := by decide +kernel
theorem dL_law_503 : decode cL_law 503 = .ok (.iconst 0, 1) := by decide +kernel
theorem dL_law_504 : decode cL_law 504 = .ok (.invokevirtual 49, 3) := by decide +kernel
theorem dL_law_507 : decode cL_law 507 = .ok (.if_icmp .eq 629, 3) := by decide +kernel
theorem dL_law_510 : decode cL_law 510 = .ok (.iconst 0, 1) := by decide +kernel
theorem dL_law_511 : decode cL_law 511 = .ok (.ireturn, 1) := by decide +kernel
theorem dL_law_512 : decode cL_law 512 = .ok (.aload_n 1, 1) := by decide +kernel
theorem dL_law_513 : decode cL_law 513 = .ok (.aload_n 0, 1) := by decide +kernel
theorem dL_law_514 : decode cL_law 514 = .ok (.iload_n 3, 1) := by decide +kernel
theorem dL_law_515 : decode cL_law 515 = .ok (.iconst 1, 1) := by decide +kernel
theorem dL_law_516 : decode cL_law 516 = .ok (.iadd, 1) := by decide +kernel
theorem dL_law_517 : decode cL_law 517 = .ok (.iaload, 1) := by decide +kernel
theorem dL_law_518 : decode cL_law 518 = .ok (.invokevirtual 50, 3) := by decide +kernel
theorem dL_law_521 : decode cL_law 521 = .ok (.aload_n 2, 1) := by decide +kernel
theorem dL_law_522 : decode cL_law 522 = .ok (.aload_n 0, 1) := by decide +kernel
theorem dL_law_523 : decode cL_law 523 = .ok (.iload_n 3, 1) := by decide +kernel
theorem dL_law_524 : decode cL_law 524 = .ok (.iconst 1, 1) := by decide +kernel
theorem dL_law_525 : decode cL_law 525 = .ok (.iadd, 1) := by decide +kernel
theorem dL_law_526 : decode cL_law 526 = .ok (.iaload, 1) := by decide +kernel
theorem dL_law_527 : decode cL_law 527 = .ok (.invokevirtual 54, 3) := by decide +kernel
theorem dL_law_530 : decode cL_law 530 = .ok (.if_icmp .eq 606, 3) := by decide +kernel
theorem dL_law_533 : decode cL_law 533 = .ok (.iconst 0, 1) := by decide +kernel
theorem dL_law_534 : decode cL_law 534 = .ok (.ireturn, 1) := by decide +kernel
theorem dL_law_535 : decode cL_law 535 = .ok (.aload_n 1, 1) := by decide +kernel
theorem dL_law_536 : decode cL_law 536 = .ok (.aload_n 0, 1) := by decide +kernel
theorem dL_law_537 : decode cL_law 537 = .ok (.iload_n 3, 1) := by decide +kernel
theorem dL_law_538 : decode cL_law 538 = .ok (.iconst 1, 1) := by decide +kernel
theorem dL_law_539 : decode cL_law 539 = .ok (.iadd, 1) := by decide +kernel
theorem dL_law_540 : decode cL_law 540 = .ok (.iaload, 1) := by decide +kernel
theorem dL_law_541 : decode cL_law 541 = .ok (.aload_n 0, 1) := by decide +kernel
theorem dL_law_542 : decode cL_law 542 = .ok (.iload_n 3, 1) := by decide +kernel
theorem dL_law_543 : decode cL_law 543 = .ok (.iconst 2, 1) := by decide +kernel
theorem dL_law_544 : decode cL_law 544 = .ok (.iadd, 1) := by decide +kernel
theorem dL_law_545 : decode cL_law 545 = .ok (.iaload, 1) := by decide +kernel
theorem dL_law_546 : decode cL_law 546 = .ok (.ifCond .eq 7, 3) := by decide +kernel
theorem dL_law_549 : decode cL_law 549 = .ok (.iconst 1, 1) := by decide +kernel
theorem dL_law_550 : decode cL_law 550 = .ok (.goto 4, 3) := by decide +kernel
theorem dL_law_553 : decode cL_law 553 = .ok (.iconst 0, 1) := by decide +kernel
theorem dL_law_554 : decode cL_law 554 = .ok (.invokevirtual 55, 3) := by decide +kernel
theorem dL_law_557 : decode cL_law 557 = .ok (.aload_n 2, 1) := by decide +kernel
theorem dL_law_558 : decode cL_law 558 = .ok (.aload_n 0, 1) := by decide +kernel
theorem dL_law_559 : decode cL_law 559 = .ok (.iload_n 3, 1) := by decide +kernel
theorem dL_law_560 : decode cL_law 560 = .ok (.iconst 1, 1) := by decide +kernel
theorem dL_law_561 : decode cL_law 561 = .ok (.iadd, 1) := by decide +kernel
theorem dL_law_562 : decode cL_law 562 = .ok (.iaload, 1) := by decide +kernel
theorem dL_law_563 : decode cL_law 563 = .ok (.aload_n 0, 1) := by decide +kernel
theorem dL_law_564 : decode cL_law 564 = .ok (.iload_n 3, 1) := by decide +kernel
theorem dL_law_565 : decode cL_law 565 = .ok (.iconst 2, 1) := by decide +kernel
theorem dL_law_566 : decode cL_law 566 = .ok (.iadd, 1) := by decide +kernel
theorem dL_law_567 : decode cL_law 567 = .ok (.iaload, 1) := by decide +kernel
theorem dL_law_568 : decode cL_law 568 = .ok (.ifCond .eq 7, 3) := by decide +kernel
theorem dL_law_571 : decode cL_law 571 = .ok (.iconst 1, 1) := by decide +kernel
theorem dL_law_572 : decode cL_law 572 = .ok (.goto 4, 3) := by decide +kernel
theorem dL_law_575 : decode cL_law 575 = .ok (.iconst 0, 1) := by decide +kernel
theorem dL_law_576 : decode cL_law 576 = .ok (.invokevirtual 58, 3) := by decide +kernel
theorem dL_law_579 : decode cL_law 579 = .ok (.if_icmp .eq 557, 3) := by decide +kernel
theorem dL_law_582 : decode cL_law 582 = .ok (.iconst 0, 1) := by decide +kernel
theorem dL_law_583 : decode cL_law 583 = .ok (.ireturn, 1) := by decide +kernel
theorem dL_law_584 : decode cL_law 584 = .ok (.aload_n 1, 1) := by decide +kernel
theorem dL_law_585 : decode cL_law 585 = .ok (.aload_n 0, 1) := by decide +kernel
theorem dL_law_586 : decode cL_law 586 = .ok (.iload_n 3, 1) := by decide +kernel
theorem dL_law_587 : decode cL_law 587 = .ok (.iconst 1, 1) := by decide +kernel
theorem dL_law_588 : decode cL_law 588 = .ok (.iadd, 1) := by decide +kernel
theorem dL_law_589 : decode cL_law 589 = .ok (.iaload, 1) := by decide +kernel
theorem dL_law_590 : decode cL_law 590 = .ok (.aload_n 0, 1) := by decide +kernel
theorem dL_law_591 : decode cL_law 591 = .ok (.iload_n 3, 1) := by decide +kernel
theorem dL_law_592 : decode cL_law 592 = .ok (.iconst 2, 1) := by decide +kernel
theorem dL_law_593 : decode cL_law 593 = .ok (.iadd, 1) := by decide +kernel
theorem dL_law_594 : decode cL_law 594 = .ok (.iaload, 1) := by decide +kernel
theorem dL_law_595 : decode cL_law 595 = .ok (.invokevirtual 59, 3) := by decide +kernel
theorem dL_law_598 : decode cL_law 598 = .ok (.aload_n 2, 1) := by decide +kernel
theorem dL_law_599 : decode cL_law 599 = .ok (.aload_n 0, 1) := by decide +kernel
theorem dL_law_600 : decode cL_law 600 = .ok (.iload_n 3, 1) := by decide +kernel
theorem dL_law_601 : decode cL_law 601 = .ok (.iconst 1, 1) := by decide +kernel
theorem dL_law_602 : decode cL_law 602 = .ok (.iadd, 1) := by decide +kernel
theorem dL_law_603 : decode cL_law 603 = .ok (.iaload, 1) := by decide +kernel
theorem dL_law_604 : decode cL_law 604 = .ok (.aload_n 0, 1) := by decide +kernel
theorem dL_law_605 : decode cL_law 605 = .ok (.iload_n 3, 1) := by decide +kernel
theorem dL_law_606 : decode cL_law 606 = .ok (.iconst 2, 1) := by decide +kernel
theorem dL_law_607 : decode cL_law 607 = .ok (.iadd, 1) := by decide +kernel
theorem dL_law_608 : decode cL_law 608 = .ok (.iaload, 1) := by decide +kernel
theorem dL_law_609 : decode cL_law 609 = .ok (.invokevirtual 62, 3) := by decide +kernel
theorem dL_law_612 : decode cL_law 612 = .ok (.if_icmp .eq 524, 3) := by decide +kernel
theorem dL_law_615 : decode cL_law 615 = .ok (.iconst 0, 1) := by decide +kernel
theorem dL_law_616 : decode cL_law 616 = .ok (.ireturn, 1) := by decide +kernel
theorem dL_law_617 : decode cL_law 617 = .ok (.aload_n 1, 1) := by decide +kernel
theorem dL_law_618 : decode cL_law 618 = .ok (.aload_n 0, 1) := by decide +kernel
theorem dL_law_619 : decode cL_law 619 = .ok (.iload_n 3, 1) := by decide +kernel
theorem dL_law_620 : decode cL_law 620 = .ok (.iconst 1, 1) := by decide +kernel
theorem dL_law_621 : decode cL_law 621 = .ok (.iadd, 1) := by decide +kernel
theorem dL_law_622 : decode cL_law 622 = .ok (.iaload, 1) := by decide +kernel
theorem dL_law_623 : decode cL_law 623 = .ok (.invokevirtual 63, 3) := by decide +kernel
theorem dL_law_626 : decode cL_law 626 = .ok (.aload_n 2, 1) := by decide +kernel
theorem dL_law_627 : decode cL_law 627 = .ok (.aload_n 0, 1) := by decide +kernel
theorem dL_law_628 : decode cL_law 628 = .ok (.iload_n 3, 1) := by decide +kernel
theorem dL_law_629 : decode cL_law 629 = .ok (.iconst 1, 1) := by decide +kernel
theorem dL_law_630 : decode cL_law 630 = .ok (.iadd, 1) := by decide +kernel
theorem dL_law_631 : decode cL_law 631 = .ok (.iaload, 1) := by decide +kernel
theorem dL_law_632 : decode cL_law 632 = .ok (.invokevirtual 66, 3) := by decide +kernel
theorem dL_law_635 : decode cL_law 635 = .ok (.if_icmp .eq 501, 3) := by decide +kernel
theorem dL_law_638 : decode cL_law 638 = .ok (.iconst 0, 1) := by decide +kernel
theorem dL_law_639 : decode cL_law 639 = .ok (.ireturn, 1) := by decide +kernel
theorem dL_law_640 : decode cL_law 640 = .ok (.aload_n 1, 1) := by decide +kernel
theorem dL_law_641 : decode cL_law 641 = .ok (.aload_n 0, 1) := by decide +kernel
theorem dL_law_642 : decode cL_law 642 = .ok (.iload_n 3, 1) := by decide +kernel
theorem dL_law_643 : decode cL_law 643 = .ok (.iconst 1, 1) := by decide +kernel
theorem dL_law_644 : decode cL_law 644 = .ok (.iadd, 1) := by decide +kernel
theorem dL_law_645 : decode cL_law 645 = .ok (.iaload, 1) := by decide +kernel
theorem dL_law_646 : decode cL_law 646 = .ok (.aload_n 0, 1) := by decide +kernel
theorem dL_law_647 : decode cL_law 647 = .ok (.iload_n 3, 1) := by decide +kernel
theorem dL_law_648 : decode cL_law 648 = .ok (.iconst 2, 1) := by decide +kernel
theorem dL_law_649 : decode cL_law 649 = .ok (.iadd, 1) := by decide +kernel
theorem dL_law_650 : decode cL_law 650 = .ok (.iaload, 1) := by decide +kernel
theorem dL_law_651 : decode cL_law 651 = .ok (.invokevirtual 67, 3) := by decide +kernel
theorem dL_law_654 : decode cL_law 654 = .ok (.aload_n 2, 1) := by decide +kernel
theorem dL_law_655 : decode cL_law 655 = .ok (.aload_n 0, 1) := by decide +kernel
theorem dL_law_656 : decode cL_law 656 = .ok (.iload_n 3, 1) := by decide +kernel
theorem dL_law_657 : decode cL_law 657 = .ok (.iconst 1, 1) := by decide +kernel
theorem dL_law_658 : decode cL_law 658 = .ok (.iadd, 1) := by decide +kernel
theorem dL_law_659 : decode cL_law 659 = .ok (.iaload, 1) := by decide +kernel
theorem dL_law_660 : decode cL_law 660 = .ok (.aload_n 0, 1) := by decide +kernel
theorem dL_law_661 : decode cL_law 661 = .ok (.iload_n 3, 1) := by decide +kernel
theorem dL_law_662 : decode cL_law 662 = .ok (.iconst 2, 1) := by decide +kernel
theorem dL_law_663 : decode cL_law 663 = .ok (.iadd, 1) := by decide +kernel
theorem dL_law_664 : decode cL_law 664 = .ok (.iaload, 1) := by decide +kernel
theorem dL_law_665 : decode cL_law 665 = .ok (.invokevirtual 70, 3) := by decide +kernel
theorem dL_law_668 : decode cL_law 668 = .ok (.if_icmp .eq 468, 3) := by decide +kernel
theorem dL_law_671 : decode cL_law 671 = .ok (.iconst 0, 1) := by decide +kernel
theorem dL_law_672 : decode cL_law 672 = .ok (.ireturn, 1) := by decide +kernel
theorem dL_law_673 : decode cL_law 673 = .ok (.aload_n 1, 1) := by decide +kernel
theorem dL_law_674 : decode cL_law 674 = .ok (.aload_n 0, 1) := by decide +kernel
theorem dL_law_675 : decode cL_law 675 = .ok (.iload_n 3, 1) := by decide +kernel
theorem dL_law_676 : decode cL_law 676 = .ok (.iconst 1, 1) := by decide +kernel
theorem dL_law_677 : decode cL_law 677 = .ok (.iadd, 1) := by decide +kernel
theorem dL_law_678 : decode cL_law 678 = .ok (.iaload, 1) := by decide +kernel
theorem dL_law_679 : decode cL_law 679 = .ok (.invokevirtual 71, 3) := by decide +kernel
theorem dL_law_682 : decode cL_law 682 = .ok (.aload_n 2, 1) := by decide +kernel
theorem dL_law_683 : decode cL_law 683 = .ok (.aload_n 0, 1) := by decide +kernel
theorem dL_law_684 : decode cL_law 684 = .ok (.iload_n 3, 1) := by decide +kernel
theorem dL_law_685 : decode cL_law 685 = .ok (.iconst 1, 1) := by decide +kernel
theorem dL_law_686 : decode cL_law 686 = .ok (.iadd, 1) := by decide +kernel
theorem dL_law_687 : decode cL_law 687 = .ok (.iaload, 1) := by decide +kernel
theorem dL_law_688 : decode cL_law 688 = .ok (.invokevirtual 74, 3) := by decide +kernel
theorem dL_law_691 : decode cL_law 691 = .ok (.if_icmp .eq 445, 3) := by decide +kernel
theorem dL_law_694 : decode cL_law 694 = .ok (.iconst 0, 1) := by decide +kernel
theorem dL_law_695 : decode cL_law 695 = .ok (.ireturn, 1) := by decide +kernel
theorem dL_law_696 : decode cL_law 696 = .ok (.aload_n 1, 1) := by decide +kernel
theorem dL_law_697 : decode cL_law 697 = .ok (.aload_n 0, 1) := by decide +kernel
theorem dL_law_698 : decode cL_law 698 = .ok (.iload_n 3, 1) := by decide +kernel
theorem dL_law_699 : decode cL_law 699 = .ok (.iconst 1, 1) := by decide +kernel
theorem dL_law_700 : decode cL_law 700 = .ok (.iadd, 1) := by decide +kernel
theorem dL_law_701 : decode cL_law 701 = .ok (.iaload, 1) := by decide +kernel
theorem dL_law_702 : decode cL_law 702 = .ok (.invokevirtual 75, 3) := by decide +kernel
theorem dL_law_705 : decode cL_law 705 = .ok (.aload_n 2, 1) := by decide +kernel
theorem dL_law_706 : decode cL_law 706 = .ok (.aload_n 0, 1) := by decide +kernel
theorem dL_law_707 : decode cL_law 707 = .ok (.iload_n 3, 1) := by decide +kernel
theorem dL_law_708 : decode cL_law 708 = .ok (.iconst 1, 1) := by decide +kernel
theorem dL_law_709 : decode cL_law 709 = .ok (.iadd, 1) := by decide +kernel
theorem dL_law_710 : decode cL_law 710 = .ok (.iaload, 1) := by decide +kernel
theorem dL_law_711 : decode cL_law 711 = .ok (.invokevirtual 78, 3) := by decide +kernel
theorem dL_law_714 : decode cL_law 714 = .ok (.if_icmp .eq 422, 3) := by decide +kernel
theorem dL_law_717 : decode cL_law 717 = .ok (.iconst 0, 1) := by decide +kernel
theorem dL_law_718 : decode cL_law 718 = .ok (.ireturn, 1) := by decide +kernel
theorem dL_law_719 : decode cL_law 719 = .ok (.aload_n 1, 1) := by decide +kernel
theorem dL_law_720 : decode cL_law 720 = .ok (.invokevirtual 79, 3) := by decide +kernel
theorem dL_law_723 : decode cL_law 723 = .ok (.aload_n 2, 1) := by decide +kernel
theorem dL_law_724 : decode cL_law 724 = .ok (.invokevirtual 82, 3) := by decide +kernel
theorem dL_law_727 : decode cL_law 727 = .ok (.if_icmp .eq 409, 3) := by decide +kernel
theorem dL_law_730 : decode cL_law 730 = .ok (.iconst 0, 1) := by decide +kernel
theorem dL_law_731 : decode cL_law 731 = .ok (.ireturn, 1) := by decide +kernel
theorem dL_law_732 : decode cL_law 732 = .ok (.aload_n 1, 1) := by decide +kernel
theorem dL_law_733 : decode cL_law 733 = .ok (.invokevirtual 83, 3) := by decide +kernel
theorem dL_law_736 : decode cL_law 736 = .ok (.aload_n 2, 1) := by decide +kernel
theorem dL_law_737 : decode cL_law 737 = .ok (.invokevirtual 86, 3) := by decide +kernel
theorem dL_law_740 : decode cL_law 740 = .ok (.if_icmp .eq 396, 3) := by decide +kernel
theorem dL_law_743 : decode cL_law 743 = .ok (.iconst 0, 1) := by decide +kernel
theorem dL_law_744 : decode cL_law 744 = .ok (.ireturn, 1) := by decide +kernel
theorem dL_law_745 : decode cL_law 745 = .ok (.aload_n 1, 1) := by decide +kernel
theorem dL_law_746 : decode cL_law 746 = .ok (.invokevirtual 87, 3) := by decide +kernel
theorem dL_law_749 : decode cL_law 749 = .ok (.aload_n 2, 1) := by decide +kernel
theorem dL_law_750 : decode cL_law 750 = .ok (.invokevirtual 90, 3) := by decide +kernel
theorem dL_law_753 : decode cL_law 753 = .ok (.if_icmp .eq 383, 3) := by decide +kernel
theorem dL_law_756 : decode cL_law 756 = .ok (.iconst 0, 1) := by decide +kernel
theorem dL_law_757 : decode cL_law 757 = .ok (.ireturn, 1) := by decide +kernel
theorem dL_law_758 : decode cL_law 758 = .ok (.aload_n 1, 1) := by decide +kernel
theorem dL_law_759 : decode cL_law 759 = .ok (.aload_n 0, 1) := by decide +kernel
theorem dL_law_760 : decode cL_law 760 = .ok (.iload_n 3, 1) := by decide +kernel
theorem dL_law_761 : decode cL_law 761 = .ok (.iconst 1, 1) := by decide +kernel
theorem dL_law_762 : decode cL_law 762 = .ok (.iadd, 1) := by decide +kernel
theorem dL_law_763 : decode cL_law 763 = .ok (.iaload, 1) := by decide +kernel
theorem dL_law_764 : decode cL_law 764 = .ok (.aload_n 0, 1) := by decide +kernel
theorem dL_law_765 : decode cL_law 765 = .ok (.iload_n 3, 1) := by decide +kernel
theorem dL_law_766 : decode cL_law 766 = .ok (.iconst 2, 1) := by decide +kernel
theorem dL_law_767 : decode cL_law 767 = .ok (.iadd, 1) := by decide +kernel
theorem dL_law_768 : decode cL_law 768 = .ok (.iaload, 1) := by decide +kernel
theorem dL_law_769 : decode cL_law 769 = .ok (.invokevirtual 91, 3) := by decide +kernel
theorem dL_law_772 : decode cL_law 772 = .ok (.aload_n 2, 1) := by decide +kernel
theorem dL_law_773 : decode cL_law 773 = .ok (.aload_n 0, 1) := by decide +kernel
theorem dL_law_774 : decode cL_law 774 = .ok (.iload_n 3, 1) := by decide +kernel
theorem dL_law_775 : decode cL_law 775 = .ok (.iconst 1, 1) := by decide +kernel
theorem dL_law_776 : decode cL_law 776 = .ok (.iadd, 1) := by decide +kernel
theorem dL_law_777 : decode cL_law 777 = .ok (.iaload, 1) := by decide +kernel
theorem dL_law_778 : decode cL_law 778 = .ok (.aload_n 0, 1) := by decide +kernel
theorem dL_law_779 : decode cL_law 779 = .ok (.iload_n 3, 1) := by decide +kernel
theorem dL_law_780 : decode cL_law 780 = .ok (.iconst 2, 1) := by decide +kernel
theorem dL_law_781 : decode cL_law 781 = .ok (.iadd, 1) := by decide +kernel
theorem dL_law_782 : decode cL_law 782 = .ok (.iaload, 1) := by decide +kernel
theorem dL_law_783 : decode cL_law 783 = .ok (.invokevirtual 94, 3) := by decide +kernel
theorem dL_law_786 : decode cL_law 786 = .ok (.if_icmp .eq 350, 3) := by decide +kernel
theorem dL_law_789 : decode cL_law 789 = .ok (.iconst 0, 1) := by decide +kernel
theorem dL_law_790 : decode cL_law 790 = .ok (.ireturn, 1) := by decide +kernel
theorem dL_law_791 : decode cL_law 791 = .ok (.aload_n 1, 1) := by decide +kernel
theorem dL_law_792 : decode cL_law 792 = .ok (.aload_n 0, 1) := by decide +kernel
theorem dL_law_793 : decode cL_law 793 = .ok (.iload_n 3, 1) := by decide +kernel
theorem dL_law_794 : decode cL_law 794 = .ok (.iconst 1, 1) := by decide +kernel
theorem dL_law_795 : decode cL_law 795 = .ok (.iadd, 1) := by decide +kernel
theorem dL_law_796 : decode cL_law 796 = .ok (.iaload, 1) := by decide +kernel
theorem dL_law_797 : decode cL_law 797 = .ok (.invokevirtual 95, 3) := by decide +kernel
theorem dL_law_800 : decode cL_law 800 = .ok (.aload_n 2, 1) := by decide +kernel
theorem dL_law_801 : decode cL_law 801 = .ok (.aload_n 0, 1) := by decide +kernel
theorem dL_law_802 : decode cL_law 802 = .ok (.iload_n 3, 1) := by decide +kernel
theorem dL_law_803 : decode cL_law 803 = .ok (.iconst 1, 1) := by decide +kernel
theorem dL_law_804 : decode cL_law 804 = .ok (.iadd, 1) := by decide +kernel
theorem dL_law_805 : decode cL_law 805 = .ok (.iaload, 1) := by decide +kernel
theorem dL_law_806 : decode cL_law 806 = .ok (.invokevirtual 98, 3) := by decide +kernel
theorem dL_law_809 : decode cL_law 809 = .ok (.if_icmp .eq 327, 3) := by decide +kernel
theorem dL_law_812 : decode cL_law 812 = .ok (.iconst 0, 1) := by decide +kernel
theorem dL_law_813 : decode cL_law 813 = .ok (.ireturn, 1) := by decide +kernel
theorem dL_law_814 : decode cL_law 814 = .ok (.aload_n 1, 1) := by decide +kernel
theorem dL_law_815 : decode cL_law 815 = .ok (.aload_n 0, 1) := by decide +kernel
theorem dL_law_816 : decode cL_law 816 = .ok (.iload_n 3, 1) := by decide +kernel
theorem dL_law_817 : decode cL_law 817 = .ok (.iconst 1, 1) := by decide +kernel
theorem dL_law_818 : decode cL_law 818 = .ok (.iadd, 1) := by decide +kernel
theorem dL_law_819 : decode cL_law 819 = .ok (.iaload, 1) := by decide +kernel
theorem dL_law_820 : decode cL_law 820 = .ok (.invokevirtual 99, 3) := by decide +kernel
theorem dL_law_823 : decode cL_law 823 = .ok (.aload_n 2, 1) := by decide +kernel
theorem dL_law_824 : decode cL_law 824 = .ok (.aload_n 0, 1) := by decide +kernel
theorem dL_law_825 : decode cL_law 825 = .ok (.iload_n 3, 1) := by decide +kernel
theorem dL_law_826 : decode cL_law 826 = .ok (.iconst 1, 1) := by decide +kernel
theorem dL_law_827 : decode cL_law 827 = .ok (.iadd, 1) := by decide +kernel
theorem dL_law_828 : decode cL_law 828 = .ok (.iaload, 1) := by decide +kernel
theorem dL_law_829 : decode cL_law 829 = .ok (.invokevirtual 102, 3) := by decide +kernel
theorem dL_law_832 : decode cL_law 832 = .ok (.if_icmp .eq 304, 3) := by decide +kernel
theorem dL_law_835 : decode cL_law 835 = .ok (.iconst 0, 1) := by decide +kernel
theorem dL_law_836 : decode cL_law 836 = .ok (.ireturn, 1) := by decide +kernel
theorem dL_law_837 : decode cL_law 837 = .ok (.aload_n 1, 1) := by decide +kernel
theorem dL_law_838 : decode cL_law 838 = .ok (.aload_n 0, 1) := by decide +kernel
theorem dL_law_839 : decode cL_law 839 = .ok (.iload_n 3, 1) := by decide +kernel
theorem dL_law_840 : decode cL_law 840 = .ok (.iconst 1, 1) := by decide +kernel
theorem dL_law_841 : decode cL_law 841 = .ok (.iadd, 1) := by decide +kernel
theorem dL_law_842 : decode cL_law 842 = .ok (.iaload, 1) := by decide +kernel
theorem dL_law_843 : decode cL_law 843 = .ok (.invokevirtual 103, 3) := by decide +kernel
theorem dL_law_846 : decode cL_law 846 = .ok (.aload_n 2, 1) := by decide +kernel
theorem dL_law_847 : decode cL_law 847 = .ok (.aload_n 0, 1) := by decide +kernel
theorem dL_law_848 : decode cL_law 848 = .ok (.iload_n 3, 1) := by decide +kernel
theorem dL_law_849 : decode cL_law 849 = .ok (.iconst 1, 1) := by decide +kernel
theorem dL_law_850 : decode cL_law 850 = .ok (.iadd, 1) := by decide +kernel
theorem dL_law_851 : decode cL_law 851 = .ok (.iaload, 1) := by decide +kernel
theorem dL_law_852 : decode cL_law 852 = .ok (.invokevirtual 106, 3) := by decide +kernel
theorem dL_law_855 : decode cL_law 855 = .ok (.if_icmp .eq 281, 3) := by decide +kernel
theorem dL_law_858 : decode cL_law 858 = .ok (.iconst 0, 1) := by decide +kernel
theorem dL_law_859 : decode cL_law 859 = .ok (.ireturn, 1) := by decide +kernel
theorem dL_law_860 : decode cL_law 860 = .ok (.aload_n 1, 1) := by decide +kernel
theorem dL_law_861 : decode cL_law 861 = .ok (.aload_n 0, 1) := by decide +kernel
theorem dL_law_862 : decode cL_law 862 = .ok (.iload_n 3, 1) := by decide +kernel
theorem dL_law_863 : decode cL_law 863 = .ok (.iconst 1, 1) := by decide +kernel
theorem dL_law_864 : decode cL_law 864 = .ok (.iadd, 1) := by decide +kernel
theorem dL_law_865 : decode cL_law 865 = .ok (.iaload, 1) := by decide +kernel
theorem dL_law_866 : decode cL_law 866 = .ok (.aload_n 0, 1) := by decide +kernel
theorem dL_law_867 : decode cL_law 867 = .ok (.iload_n 3, 1) := by decide +kernel
theorem dL_law_868 : decode cL_law 868 = .ok (.iconst 2, 1) := by decide +kernel
theorem dL_law_869 : decode cL_law 869 = .ok (.iadd, 1) := by decide +kernel
theorem dL_law_870 : decode cL_law 870 = .ok (.iaload, 1) := by decide +kernel
theorem dL_law_871 : decode cL_law 871 = .ok (.invokevirtual 107, 3) := by decide +kernel
theorem dL_law_874 : decode cL_law 874 = .ok (.aload_n 2, 1) := by decide +kernel
theorem dL_law_875 : decode cL_law 875 = .ok (.aload_n 0, 1) := by decide +kernel
theorem dL_law_876 : decode cL_law 876 = .ok (.iload_n 3, 1) := by decide +kernel
theorem dL_law_877 : decode cL_law 877 = .ok (.iconst 1, 1) := by decide +kernel
theorem dL_law_878 : decode cL_law 878 = .ok (.iadd, 1) := by decide +kernel
theorem dL_law_879 : decode cL_law 879 = .ok (.iaload, 1) := by decide +kernel
theorem dL_law_880 : decode cL_law 880 = .ok (.aload_n 0, 1) := by decide +kernel
theorem dL_law_881 : decode cL_law 881 = .ok (.iload_n 3, 1) := by decide +kernel
theorem dL_law_882 : decode cL_law 882 = .ok (.iconst 2, 1) := by decide +kernel
theorem dL_law_883 : decode cL_law 883 = .ok (.iadd, 1) := by decide +kernel
theorem dL_law_884 : decode cL_law 884 = .ok (.iaload, 1) := by decide +kernel
theorem dL_law_885 : decode cL_law 885 = .ok (.invokevirtual 110, 3) := by decide +kernel
theorem dL_law_888 : decode cL_law 888 = .ok (.if_icmp .eq 248, 3) := by decide +kernel
theorem dL_law_891 : decode cL_law 891 = .ok (.iconst 0, 1) := by decide +kernel
theorem dL_law_892 : decode cL_law 892 = .ok (.ireturn, 1) := by decide +kernel
theorem dL_law_893 : decode cL_law 893 = .ok (.aload_n 1, 1) := by decide +kernel
theorem dL_law_894 : decode cL_law 894 = .ok (.aload_n 0, 1) := by decide +kernel
theorem dL_law_895 : decode cL_law 895 = .ok (.iload_n 3, 1) := by decide +kernel
theorem dL_law_896 : decode cL_law 896 = .ok (.iconst 1, 1) := by decide +kernel
theorem dL_law_897 : decode cL_law 897 = .ok (.iadd, 1) := by decide +kernel
theorem dL_law_898 : decode cL_law 898 = .ok (.iaload, 1) := by decide +kernel
theorem dL_law_899 : decode cL_law 899 = .ok (.aload_n 0, 1) := by decide +kernel
theorem dL_law_900 : decode cL_law 900 = .ok (.iload_n 3, 1) := by decide +kernel
theorem dL_law_901 : decode cL_law 901 = .ok (.iconst 2, 1) := by decide +kernel
theorem dL_law_902 : decode cL_law 902 = .ok (.iadd, 1) := by decide +kernel
theorem dL_law_903 : decode cL_law 903 = .ok (.iaload, 1) := by decide +kernel
theorem dL_law_904 : decode cL_law 904 = .ok (.invokevirtual 111, 3) := by decide +kernel
theorem dL_law_907 : decode cL_law 907 = .ok (.aload_n 2, 1) := by decide +kernel
theorem dL_law_908 : decode cL_law 908 = .ok (.aload_n 0, 1) := by decide +kernel
theorem dL_law_909 : decode cL_law 909 = .ok (.iload_n 3, 1) := by decide +kernel
theorem dL_law_910 : decode cL_law 910 = .ok (.iconst 1, 1) := by decide +kernel
theorem dL_law_911 : decode cL_law 911 = .ok (.iadd, 1) := by decide +kernel
theorem dL_law_912 : decode cL_law 912 = .ok (.iaload, 1) := by decide +kernel
theorem dL_law_913 : decode cL_law 913 = .ok (.aload_n 0, 1) := by decide +kernel
theorem dL_law_914 : decode cL_law 914 = .ok (.iload_n 3, 1) := by decide +kernel
theorem dL_law_915 : decode cL_law 915 = .ok (.iconst 2, 1) := by decide +kernel
theorem dL_law_916 : decode cL_law 916 = .ok (.iadd, 1) := by decide +kernel
theorem dL_law_917 : decode cL_law 917 = .ok (.iaload, 1) := by decide +kernel
theorem dL_law_918 : decode cL_law 918 = .ok (.invokevirtual 114, 3) := by decide +kernel
theorem dL_law_921 : decode cL_law 921 = .ok (.if_icmp .eq 215, 3) := by decide +kernel
theorem dL_law_924 : decode cL_law 924 = .ok (.iconst 0, 1) := by decide +kernel
theorem dL_law_925 : decode cL_law 925 = .ok (.ireturn, 1) := by decide +kernel
theorem dL_law_926 : decode cL_law 926 = .ok (.aload_n 1, 1) := by decide +kernel
theorem dL_law_927 : decode cL_law 927 = .ok (.invokevirtual 115, 3) := by decide +kernel
theorem dL_law_930 : decode cL_law 930 = .ok (.aload_n 2, 1) := by decide +kernel
theorem dL_law_931 : decode cL_law 931 = .ok (.invokevirtual 118, 3) := by decide +kernel
theorem dL_law_934 : decode cL_law 934 = .ok (.if_icmp .eq 202, 3) := by decide +kernel
theorem dL_law_937 : decode cL_law 937 = .ok (.iconst 0, 1) := by decide +kernel
theorem dL_law_938 : decode cL_law 938 = .ok (.ireturn, 1) := by decide +kernel
theorem dL_law_939 : decode cL_law 939 = .ok (.aload_n 1, 1) := by decide +kernel
theorem dL_law_940 : decode cL_law 940 = .ok (.invokevirtual 119, 3) := by decide +kernel
theorem dL_law_943 : decode cL_law 943 = .ok (.aload_n 2, 1) := by decide +kernel
theorem dL_law_944 : decode cL_law 944 = .ok (.invokevirtual 122, 3) := by decide +kernel
theorem dL_law_947 : decode cL_law 947 = .ok (.if_icmp .eq 189, 3) := by decide +kernel
theorem dL_law_950 : decode cL_law 950 = .ok (.iconst 0, 1) := by decide +kernel
theorem dL_law_951 : decode cL_law 951 = .ok (.ireturn, 1) := by decide +kernel
theorem dL_law_952 : decode cL_law 952 = .ok (.aload_n 1, 1) := by decide +kernel
theorem dL_law_953 : decode cL_law 953 = .ok (.invokevirtual 123, 3) := by decide +kernel
theorem dL_law_956 : decode cL_law 956 = .ok (.aload_n 2, 1) := by decide +kernel
theorem dL_law_957 : decode cL_law 957 = .ok (.invokevirtual 126, 3) := by decide +kernel
theorem dL_law_960 : decode cL_law 960 = .ok (.if_icmp .eq 176, 3) := by decide +kernel
theorem dL_law_963 : decode cL_law 963 = .ok (.iconst 0, 1) := by decide +kernel
theorem dL_law_964 : decode cL_law 964 = .ok (.ireturn, 1) := by decide +kernel
theorem dL_law_965 : decode cL_law 965 = .ok (.aload_n 1, 1) := by decide +kernel
theorem dL_law_966 : decode cL_law 966 = .ok (.invokevirtual 127, 3) := by decide +kernel
theorem dL_law_969 : decode cL_law 969 = .ok (.aload_n 2, 1) := by decide +kernel
theorem dL_law_970 : decode cL_law 970 = .ok (.invokevirtual 130, 3) := by decide +kernel
theorem dL_law_973 : decode cL_law 973 = .ok (.if_icmp .eq 163, 3) := by decide +kernel
theorem dL_law_976 : decode cL_law 976 = .ok (.iconst 0, 1) := by decide +kernel
theorem dL_law_977 : decode cL_law 977 = .ok (.ireturn, 1) := by decide +kernel
theorem dL_law_978 : decode cL_law 978 = .ok (.aload_n 1, 1) := by decide +kernel
theorem dL_law_979 : decode cL_law 979 = .ok (.aload_n 0, 1) := by decide +kernel
theorem dL_law_980 : decode cL_law 980 = .ok (.iload_n 3, 1) := by decide +kernel
theorem dL_law_981 : decode cL_law 981 = .ok (.iconst 1, 1) := by decide +kernel
theorem dL_law_982 : decode cL_law 982 = .ok (.iadd, 1) := by decide +kernel
theorem dL_law_983 : decode cL_law 983 = .ok (.iaload, 1) := by decide +kernel
theorem dL_law_984 : decode cL_law 984 = .ok (.invokevirtual 131, 3) := by decide +kernel
theorem dL_law_987 : decode cL_law 987 = .ok (.aload_n 2, 1) := by decide +kernel
theorem dL_law_988 : decode cL_law 988 = .ok (.aload_n 0, 1) := by decide +kernel
theorem dL_law_989 : decode cL_law 989 = .ok (.iload_n 3, 1) := by decide +kernel
theorem dL_law_990 : decode cL_law 990 = .ok (.iconst 1, 1) := by decide +kernel
theorem dL_law_991 : decode cL_law 991 = .ok (.iadd, 1) := by decide +kernel
theorem dL_law_992 : decode cL_law 992 = .ok (.iaload, 1) := by decide +kernel
theorem dL_law_993 : decode cL_law 993 = .ok (.invokevirtual 134, 3) := by decide +kernel
theorem dL_law_996 : decode cL_law 996 = .ok (.if_icmp .eq 140, 3) := by decide +kernel
theorem dL_law_999 : decode cL_law 999 = .ok (.iconst 0, 1) := by decide +kernel
theorem dL_law_1000 : decode cL_law 1000 = .ok (.ireturn, 1) := by decide +kernel
theorem dL_law_1001 : decode cL_law 1001 = .ok (.aload_n 1, 1) := by decide +kernel
theorem dL_law_1002 : decode cL_law 1002 = .ok (.invokevirtual 135, 3) := by decide +kernel
theorem dL_law_1005 : decode cL_law 1005 = .ok (.aload_n 2, 1) := by decide +kernel
theorem dL_law_1006 : decode cL_law 1006 = .ok (.invokevirtual 138, 3) := by decide +kernel
theorem dL_law_1009 : decode cL_law 1009 = .ok (.if_icmp .eq 127, 3) := by decide +kernel
theorem dL_law_1012 : decode cL_law 1012 = .ok (.iconst 0, 1) := by decide +kernel
theorem dL_law_1013 : decode cL_law 1013 = .ok (.ireturn, 1) := by decide +kernel
theorem dL_law_1014 : decode cL_law 1014 = .ok (.aload_n 1, 1) := by decide +kernel
theorem dL_law_1015 : decode cL_law 1015 = .ok (.aload_n 0, 1) := by decide +kernel
theorem dL_law_1016 : decode cL_law 1016 = .ok (.iload_n 3, 1) := by decide +kernel
theorem dL_law_1017 : decode cL_law 1017 = .ok (.iconst 1, 1) := by decide +kernel
theorem dL_law_1018 : decode cL_law 1018 = .ok (.iadd, 1) := by decide +kernel
theorem dL_law_1019 : decode cL_law 1019 = .ok (.iaload, 1) := by decide +kernel
theorem dL_law_1020 : decode cL_law 1020 = .ok (.invokevirtual 139, 3) := by decide +kernel
theorem dL_law_1023 : decode cL_law 1023 = .ok (.aload_n 2, 1) := by decide +kernel
theorem dL_law_1024 : decode cL_law 1024 = .ok (.aload_n 0, 1) := by decide +kernel
theorem dL_law_1025 : decode cL_law 1025 = .ok (.iload_n 3, 1) := by decide +kernel
theorem dL_law_1026 : decode cL_law 1026 = .ok (.iconst 1, 1) := by decide +kernel
theorem dL_law_1027 : decode cL_law 1027 = .ok (.iadd, 1) := by decide +kernel
theorem dL_law_1028 : decode cL_law 1028 = .ok (.iaload, 1) := by decide +kernel
theorem dL_law_1029 : decode cL_law 1029 = .ok (.invokevirtual 142, 3) := by decide +kernel
theorem dL_law_1032 : decode cL_law 1032 = .ok (.if_icmp .eq 104, 3) := by decide +kernel
theorem dL_law_1035 : decode cL_law 1035 = .ok (.iconst 0, 1) := by decide +kernel
theorem dL_law_1036 : decode cL_law 1036 = .ok (.ireturn, 1) := by decide +kernel
theorem dL_law_1037 : decode cL_law 1037 = .ok (.aload_n 1, 1) := by decide +kernel
theorem dL_law_1038 : decode cL_law 1038 = .ok (.invokevirtual 143, 3) := by decide +kernel
theorem dL_law_1041 : decode cL_law 1041 = .ok (.aload_n 2, 1) := by decide +kernel
theorem dL_law_1042 : decode cL_law 1042 = .ok (.invokevirtual 146, 3) := by decide +kernel
theorem dL_law_1045 : decode cL_law 1045 = .ok (.if_icmp .eq 91, 3) := by decide +kernel
theorem dL_law_1048 : decode cL_law 1048 = .ok (.iconst 0, 1) := by decide +kernel
theorem dL_law_1049 : decode cL_law 1049 = .ok (.ireturn, 1) := by decide +kernel
theorem dL_law_1050 : decode cL_law 1050 = .ok (.aload_n 1, 1) := by decide +kernel
theorem dL_law_1051 : decode cL_law 1051 = .ok (.aload_n 0, 1) := by decide +kernel
theorem dL_law_1052 : decode cL_law 1052 = .ok (.iload_n 3, 1) := by decide +kernel
theorem dL_law_1053 : decode cL_law 1053 = .ok (.iconst 1, 1) := by decide +kernel
theorem dL_law_1054 : decode cL_law 1054 = .ok (.iadd, 1) := by decide +kernel
theorem dL_law_1055 : decode cL_law 1055 = .ok (.iaload, 1) := by decide +kernel
theorem dL_law_1056 : decode cL_law 1056 = .ok (.invokevirtual 147, 3) := by decide +kernel
theorem dL_law_1059 : decode cL_law 1059 = .ok (.aload_n 2, 1) := by decide +kernel
theorem dL_law_1060 : decode cL_law 1060 = .ok (.aload_n 0, 1) := by decide +kernel
theorem dL_law_1061 : decode cL_law 1061 = .ok (.iload_n 3, 1) := by decide +kernel
theorem dL_law_1062 : decode cL_law 1062 = .ok (.iconst 1, 1) := by decide +kernel
theorem dL_law_1063 : decode cL_law 1063 = .ok (.iadd, 1) := by decide +kernel
theorem dL_law_1064 : decode cL_law 1064 = .ok (.iaload, 1) := by decide +kernel
theorem dL_law_1065 : decode cL_law 1065 = .ok (.invokevirtual 150, 3) := by decide +kernel
theorem dL_law_1068 : decode cL_law 1068 = .ok (.if_icmp .eq 68, 3) := by decide +kernel
theorem dL_law_1071 : decode cL_law 1071 = .ok (.iconst 0, 1) := by decide +kernel
theorem dL_law_1072 : decode cL_law 1072 = .ok (.ireturn, 1) := by decide +kernel
theorem dL_law_1073 : decode cL_law 1073 = .ok (.aload_n 1, 1) := by decide +kernel
theorem dL_law_1074 : decode cL_law 1074 = .ok (.invokevirtual 151, 3) := by decide +kernel
theorem dL_law_1077 : decode cL_law 1077 = .ok (.aload_n 2, 1) := by decide +kernel
theorem dL_law_1078 : decode cL_law 1078 = .ok (.invokevirtual 154, 3) := by decide +kernel
theorem dL_law_1081 : decode cL_law 1081 = .ok (.if_icmp .eq 55, 3) := by decide +kernel
theorem dL_law_1084 : decode cL_law 1084 = .ok (.iconst 0, 1) := by decide +kernel
theorem dL_law_1085 : decode cL_law 1085 = .ok (.ireturn, 1) := by decide +kernel
theorem dL_law_1086 : decode cL_law 1086 = .ok (.aload_n 1, 1) := by decide +kernel
theorem dL_law_1087 : decode cL_law 1087 = .ok (.invokevirtual 155, 3) := by decide +kernel
theorem dL_law_1090 : decode cL_law 1090 = .ok (.aload_n 2, 1) := by decide +kernel
theorem dL_law_1091 : decode cL_law 1091 = .ok (.invokevirtual 158, 3) := by decide +kernel
theorem dL_law_1094 : decode cL_law 1094 = .ok (.if_icmp .eq 42, 3) := by decide +kernel
theorem dL_law_1097 : decode cL_law 1097 = .ok (.iconst 0, 1) := by decide +kernel
theorem dL_law_1098 : decode cL_law 1098 = .ok (.ireturn, 1) := by decide +kernel
theorem dL_law_1099 : decode cL_law 1099 = .ok (.aload_n 1, 1) := by decide +kernel
theorem dL_law_1100 : decode cL_law 1100 = .ok (.aload_n 0, 1) := by decide +kernel
theorem dL_law_1101 : decode cL_law 1101 = .ok (.iload_n 3, 1) := by decide +kernel
theorem dL_law_1102 : decode cL_law 1102 = .ok (.iconst 1, 1) := by decide +kernel
theorem dL_law_1103 : decode cL_law 1103 = .ok (.iadd, 1) := by decide +kernel
theorem dL_law_1104 : decode cL_law 1104 = .ok (.iaload, 1) := by decide +kernel
theorem dL_law_1105 : decode cL_law 1105 = .ok (.invokevirtual 159, 3) := by decide +kernel
theorem dL_law_1108 : decode cL_law 1108 = .ok (.aload_n 2, 1) := by decide +kernel
theorem dL_law_1109 : decode cL_law 1109 = .ok (.aload_n 0, 1) := by decide +kernel
theorem dL_law_1110 : decode cL_law 1110 = .ok (.iload_n 3, 1) := by decide +kernel
theorem dL_law_1111 : decode cL_law 1111 = .ok (.iconst 1, 1) := by decide +kernel
theorem dL_law_1112 : decode cL_law 1112 = .ok (.iadd, 1) := by decide +kernel
theorem dL_law_1113 : decode cL_law 1113 = .ok (.iaload, 1) := by decide +kernel
theorem dL_law_1114 : decode cL_law 1114 = .ok (.invokevirtual 162, 3) := by decide +kernel
theorem dL_law_1117 : decode cL_law 1117 = .ok (.if_icmp .eq 19, 3) := by decide +kernel
theorem dL_law_1120 : decode cL_law 1120 = .ok (.iconst 0, 1) := by decide +kernel
theorem dL_law_1121 : decode cL_law 1121 = .ok (.ireturn, 1) := by decide +kernel
theorem dL_law_1122 : decode cL_law 1122 = .ok (.aload_n 1, 1) := by decide +kernel
theorem dL_law_1123 : decode cL_law 1123 = .ok (.invokevirtual 163, 3) := by decide +kernel
theorem dL_law_1126 : decode cL_law 1126 = .ok (.aload_n 2, 1) := by decide +kernel
theorem dL_law_1127 : decode cL_law 1127 = .ok (.invokevirtual 167, 3) := by decide +kernel
theorem dL_law_1130 : decode cL_law 1130 = .ok (.lcmp, 1) := by decide +kernel
theorem dL_law_1131 : decode cL_law 1131 = .ok (.ifCond .eq 5, 3) := by decide +kernel
theorem dL_law_1134 : decode cL_law 1134 = .ok (.iconst 0, 1) := by decide +kernel
theorem dL_law_1135 : decode cL_law 1135 = .ok (.ireturn, 1) := by decide +kernel
theorem dL_law_1136 : decode cL_law 1136 = .ok (.iinc 3 6, 3) := by decide +kernel
theorem dL_law_1139 : decode cL_law 1139 = .ok (.goto (-1121), 3) := by decide +kernel
theorem dL_law_1142 : decode cL_law 1142 = .ok (.iconst 1, 1) := by decide +kernel
theorem dL_law_1143 : decode cL_law 1143 = .ok (.ireturn, 1) := by decide +kernel
