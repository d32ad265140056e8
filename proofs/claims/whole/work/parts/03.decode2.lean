theorem dX11_keeps_0 : decode cX11_keeps 0 = .ok (.aload_n 0, 1) := by decide +kernel
theorem dX11_keeps_1 : decode cX11_keeps 1 = .ok (.getfield 79, 3) := by decide +kernel
theorem dX11_keeps_4 : decode cX11_keeps 4 = .ok (.bipush 10, 2) := by decide +kernel
theorem dX11_keeps_6 : decode cX11_keeps 6 = .ok (.if_icmp .ne 44, 3) := by decide +kernel
theorem dX11_keeps_9 : decode cX11_keeps 9 = .ok (.iconst 0, 1) := by decide +kernel
theorem dX11_keeps_10 : decode cX11_keeps 10 = .ok (.istore_n 2, 1) := by decide +kernel
theorem dX11_keeps_11 : decode cX11_keeps 11 = .ok (.iload_n 2, 1) := by decide +kernel
theorem dX11_keeps_12 : decode cX11_keeps 12 = .ok (.sipush 4941, 3) := by decide +kernel
theorem dX11_keeps_15 : decode cX11_keeps 15 = .ok (.if_icmp .ge 25, 3) := by decide +kernel
theorem dX11_keeps_18 : decode cX11_keeps 18 = .ok (.aload_n 0, 1) := by decide +kernel
theorem dX11_keeps_19 : decode cX11_keeps 19 = .ok (.getfield 13, 3) := by decide +kernel
theorem dX11_keeps_22 : decode cX11_keeps 22 = .ok (.iload_n 2, 1) := by decide +kernel
theorem dX11_keeps_23 : decode cX11_keeps 23 = .ok (.aload_n 0, 1) := by decide +kernel
theorem dX11_keeps_24 : decode cX11_keeps 24 = .ok (.getfield 13, 3) := by decide +kernel
theorem dX11_keeps_27 : decode cX11_keeps 27 = .ok (.iload_n 2, 1) := by decide +kernel
theorem dX11_keeps_28 : decode cX11_keeps 28 = .ok (.sipush 549, 3) := by decide +kernel
theorem dX11_keeps_31 : decode cX11_keeps 31 = .ok (.iadd, 1) := by decide +kernel
theorem dX11_keeps_32 : decode cX11_keeps 32 = .ok (.iaload, 1) := by decide +kernel
theorem dX11_keeps_33 : decode cX11_keeps 33 = .ok (.iastore, 1) := by decide +kernel
theorem dX11_keeps_34 : decode cX11_keeps 34 = .ok (.iinc 2 1, 3) := by decide +kernel
theorem dX11_keeps_37 : decode cX11_keeps 37 = .ok (.goto (-26), 3) := by decide +kernel
theorem dX11_keeps_40 : decode cX11_keeps 40 = .ok (.aload_n 0, 1) := by decide +kernel
theorem dX11_keeps_41 : decode cX11_keeps 41 = .ok (.dup, 1) := by decide +kernel
theorem dX11_keeps_42 : decode cX11_keeps 42 = .ok (.getfield 79, 3) := by decide +kernel
theorem dX11_keeps_45 : decode cX11_keeps 45 = .ok (.iconst 1, 1) := by decide +kernel
theorem dX11_keeps_46 : decode cX11_keeps 46 = .ok (.isub, 1) := by decide +kernel
theorem dX11_keeps_47 : decode cX11_keeps 47 = .ok (.putfield 79, 3) := by decide +kernel
theorem dX11_keeps_50 : decode cX11_keeps 50 = .ok (.iconst 0, 1) := by decide +kernel
theorem dX11_keeps_51 : decode cX11_keeps 51 = .ok (.istore_n 2, 1) := by decide +kernel
theorem dX11_keeps_52 : decode cX11_keeps 52 = .ok (.iload_n 2, 1) := by decide +kernel
theorem dX11_keeps_53 : decode cX11_keeps 53 = .ok (.sipush 549, 3) := by decide +kernel
theorem dX11_keeps_56 : decode cX11_keeps 56 = .ok (.if_icmp .ge 30, 3) := by decide +kernel
theorem dX11_keeps_59 : decode cX11_keeps 59 = .ok (.aload_n 0, 1) := by decide +kernel
theorem dX11_keeps_60 : decode cX11_keeps 60 = .ok (.getfield 13, 3) := by decide +kernel
theorem dX11_keeps_63 : decode cX11_keeps 63 = .ok (.sipush 549, 3) := by decide +kernel
theorem dX11_keeps_66 : decode cX11_keeps 66 = .ok (.aload_n 0, 1) := by decide +kernel
theorem dX11_keeps_67 : decode cX11_keeps 67 = .ok (.getfield 79, 3) := by decide +kernel
theorem dX11_keeps_70 : decode cX11_keeps 70 = .ok (.imul, 1) := by decide +kernel
theorem dX11_keeps_71 : decode cX11_keeps 71 = .ok (.iload_n 2, 1) := by decide +kernel
theorem dX11_keeps_72 : decode cX11_keeps 72 = .ok (.iadd, 1) := by decide +kernel
theorem dX11_keeps_73 : decode cX11_keeps 73 = .ok (.aload_n 0, 1) := by decide +kernel
theorem dX11_keeps_74 : decode cX11_keeps 74 = .ok (.getfield 7, 3) := by decide +kernel
theorem dX11_keeps_77 : decode cX11_keeps 77 = .ok (.iload_n 2, 1) := by decide +kernel
theorem dX11_keeps_78 : decode cX11_keeps 78 = .ok (.iaload, 1) := by decide +kernel
theorem dX11_keeps_79 : decode cX11_keeps 79 = .ok (.iastore, 1) := by decide +kernel
theorem dX11_keeps_80 : decode cX11_keeps 80 = .ok (.iinc 2 1, 3) := by decide +kernel
theorem dX11_keeps_83 : decode cX11_keeps 83 = .ok (.goto (-31), 3) := by decide +kernel
theorem dX11_keeps_86 : decode cX11_keeps 86 = .ok (.aload_n 0, 1) := by decide +kernel
theorem dX11_keeps_87 : decode cX11_keeps 87 = .ok (.dup, 1) := by decide +kernel
theorem dX11_keeps_88 : decode cX11_keeps 88 = .ok (.getfield 79, 3) := by decide +kernel
theorem dX11_keeps_91 : decode cX11_keeps 91 = .ok (.iconst 1, 1) := by decide +kernel
theorem dX11_keeps_92 : decode cX11_keeps 92 = .ok (.iadd, 1) := by decide +kernel
theorem dX11_keeps_93 : decode cX11_keeps 93 = .ok (.putfield 79, 3) := by decide +kernel
theorem dX11_keeps_96 : decode cX11_keeps 96 = .ok (.aload_n 0, 1) := by decide +kernel
theorem dX11_keeps_97 : decode cX11_keeps 97 = .ok (.getfield 7, 3) := by decide +kernel
theorem dX11_keeps_100 : decode cX11_keeps 100 = .ok (.sipush 292, 3) := by decide +kernel
theorem dX11_keeps_103 : decode cX11_keeps 103 = .ok (.iload_n 1, 1) := by decide +kernel
theorem dX11_keeps_104 : decode cX11_keeps 104 = .ok (.ifCond .eq 7, 3) := by decide +kernel
theorem dX11_keeps_107 : decode cX11_keeps 107 = .ok (.iconst 0, 1) := by decide +kernel
theorem dX11_keeps_108 : decode cX11_keeps 108 = .ok (.goto 11, 3) := by decide +kernel
theorem dX11_keeps_111 : decode cX11_keeps 111 = .ok (.aload_n 0, 1) := by decide +kernel
theorem dX11_keeps_112 : decode cX11_keeps 112 = .ok (.getfield 7, 3) := by decide +kernel
theorem dX11_keeps_115 : decode cX11_keeps 115 = .ok (.sipush 292, 3) := by decide +kernel
theorem dX11_keeps_118 : decode cX11_keeps 118 = .ok (.iaload, 1) := by decide +kernel
theorem dX11_keeps_119 : decode cX11_keeps 119 = .ok (.iastore, 1) := by decide +kernel
theorem dX11_keeps_120 : decode cX11_keeps 120 = .ok (.return_, 1) := by decide +kernel
theorem dX11_undo_0 : decode cX11_undo 0 = .ok (.aload_n 0, 1) := by decide +kernel
theorem dX11_undo_1 : decode cX11_undo 1 = .ok (.getfield 79, 3) := by decide +kernel
theorem dX11_undo_4 : decode cX11_undo 4 = .ok (.ifCond .ne 6, 3) := by decide +kernel
theorem dX11_undo_7 : decode cX11_undo 7 = .ok (.bipush (-3), 2) := by decide +kernel
theorem dX11_undo_9 : decode cX11_undo 9 = .ok (.ireturn, 1) := by decide +kernel
theorem dX11_undo_10 : decode cX11_undo 10 = .ok (.aload_n 0, 1) := by decide +kernel
theorem dX11_undo_11 : decode cX11_undo 11 = .ok (.dup, 1) := by decide +kernel
theorem dX11_undo_12 : decode cX11_undo 12 = .ok (.getfield 79, 3) := by decide +kernel
theorem dX11_undo_15 : decode cX11_undo 15 = .ok (.iconst 1, 1) := by decide +kernel
theorem dX11_undo_16 : decode cX11_undo 16 = .ok (.isub, 1) := by decide +kernel
theorem dX11_undo_17 : decode cX11_undo 17 = .ok (.putfield 79, 3) := by decide +kernel
theorem dX11_undo_20 : decode cX11_undo 20 = .ok (.iconst 0, 1) := by decide +kernel
theorem dX11_undo_21 : decode cX11_undo 21 = .ok (.istore_n 1, 1) := by decide +kernel
theorem dX11_undo_22 : decode cX11_undo 22 = .ok (.iload_n 1, 1) := by decide +kernel
theorem dX11_undo_23 : decode cX11_undo 23 = .ok (.sipush 549, 3) := by decide +kernel
theorem dX11_undo_26 : decode cX11_undo 26 = .ok (.if_icmp .ge 30, 3) := by decide +kernel
theorem dX11_undo_29 : decode cX11_undo 29 = .ok (.aload_n 0, 1) := by decide +kernel
theorem dX11_undo_30 : decode cX11_undo 30 = .ok (.getfield 7, 3) := by decide +kernel
theorem dX11_undo_33 : decode cX11_undo 33 = .ok (.iload_n 1, 1) := by decide +kernel
theorem dX11_undo_34 : decode cX11_undo 34 = .ok (.aload_n 0, 1) := by decide +kernel
theorem dX11_undo_35 : decode cX11_undo 35 = .ok (.getfield 13, 3) := by decide +kernel
theorem dX11_undo_38 : decode cX11_undo 38 = .ok (.sipush 549, 3) := by decide +kernel
theorem dX11_undo_41 : decode cX11_undo 41 = .ok (.aload_n 0, 1) := by decide +kernel
theorem dX11_undo_42 : decode cX11_undo 42 = .ok (.getfield 79, 3) := by decide +kernel
theorem dX11_undo_45 : decode cX11_undo 45 = .ok (.imul, 1) := by decide +kernel
theorem dX11_undo_46 : decode cX11_undo 46 = .ok (.iload_n 1, 1) := by decide +kernel
theorem dX11_undo_47 : decode cX11_undo 47 = .ok (.iadd, 1) := by decide +kernel
theorem dX11_undo_48 : decode cX11_undo 48 = .ok (.iaload, 1) := by decide +kernel
theorem dX11_undo_49 : decode cX11_undo 49 = .ok (.iastore, 1) := by decide +kernel
theorem dX11_undo_50 : decode cX11_undo 50 = .ok (.iinc 1 1, 3) := by decide +kernel
theorem dX11_undo_53 : decode cX11_undo 53 = .ok (.goto (-31), 3) := by decide +kernel
theorem dX11_undo_56 : decode cX11_undo 56 = .ok (.aload_n 0, 1) := by decide +kernel
theorem dX11_undo_57 : decode cX11_undo 57 = .ok (.getfield 79, 3) := by decide +kernel
theorem dX11_undo_60 : decode cX11_undo 60 = .ok (.ireturn, 1) := by decide +kernel
theorem dX11_image_0 : decode cX11_image 0 = .ok (.iload_n 1, 1) := by decide +kernel
theorem dX11_image_1 : decode cX11_image 1 = .ok (.iconst 1, 1) := by decide +kernel
theorem dX11_image_2 : decode cX11_image 2 = .ok (.bipush 16, 2) := by decide +kernel
theorem dX11_image_4 : decode cX11_image 4 = .ok (.invokestatic 57, 3) := by decide +kernel
theorem dX11_image_7 : decode cX11_image 7 = .ok (.ifCond .eq 13, 3) := by decide +kernel
theorem dX11_image_10 : decode cX11_image 10 = .ok (.iload_n 2, 1) := by decide +kernel
theorem dX11_image_11 : decode cX11_image 11 = .ok (.iconst 1, 1) := by decide +kernel
theorem dX11_image_12 : decode cX11_image 12 = .ok (.bipush 16, 2) := by decide +kernel
theorem dX11_image_14 : decode cX11_image 14 = .ok (.invokestatic 57, 3) := by decide +kernel
theorem dX11_image_17 : decode cX11_image 17 = .ok (.ifCond .ne 6, 3) := by decide +kernel
theorem dX11_image_20 : decode cX11_image 20 = .ok (.bipush (-2), 2) := by decide +kernel
theorem dX11_image_22 : decode cX11_image 22 = .ok (.ireturn, 1) := by decide +kernel
theorem dX11_image_23 : decode cX11_image 23 = .ok (.aload_n 0, 1) := by decide +kernel
theorem dX11_image_24 : decode cX11_image 24 = .ok (.iconst 1, 1) := by decide +kernel
theorem dX11_image_25 : decode cX11_image 25 = .ok (.invokevirtual 83, 3) := by decide +kernel
theorem dX11_image_28 : decode cX11_image 28 = .ok (.aload_n 0, 1) := by decide +kernel
theorem dX11_image_29 : decode cX11_image 29 = .ok (.getfield 7, 3) := by decide +kernel
theorem dX11_image_32 : decode cX11_image 32 = .ok (.iconst 0, 1) := by decide +kernel
theorem dX11_image_33 : decode cX11_image 33 = .ok (.iload_n 1, 1) := by decide +kernel
theorem dX11_image_34 : decode cX11_image 34 = .ok (.iastore, 1) := by decide +kernel
theorem dX11_image_35 : decode cX11_image 35 = .ok (.aload_n 0, 1) := by decide +kernel
theorem dX11_image_36 : decode cX11_image 36 = .ok (.getfield 7, 3) := by decide +kernel
theorem dX11_image_39 : decode cX11_image 39 = .ok (.iconst 1, 1) := by decide +kernel
theorem dX11_image_40 : decode cX11_image 40 = .ok (.iload_n 2, 1) := by decide +kernel
theorem dX11_image_41 : decode cX11_image 41 = .ok (.iastore, 1) := by decide +kernel
theorem dX11_image_42 : decode cX11_image 42 = .ok (.iconst 0, 1) := by decide +kernel
theorem dX11_image_43 : decode cX11_image 43 = .ok (.istore_n 3, 1) := by decide +kernel
theorem dX11_image_44 : decode cX11_image 44 = .ok (.iload_n 3, 1) := by decide +kernel
theorem dX11_image_45 : decode cX11_image 45 = .ok (.sipush 256, 3) := by decide +kernel
theorem dX11_image_48 : decode cX11_image 48 = .ok (.if_icmp .ge 18, 3) := by decide +kernel
theorem dX11_image_51 : decode cX11_image 51 = .ok (.aload_n 0, 1) := by decide +kernel
theorem dX11_image_52 : decode cX11_image 52 = .ok (.getfield 7, 3) := by decide +kernel
theorem dX11_image_55 : decode cX11_image 55 = .ok (.iconst 2, 1) := by decide +kernel
theorem dX11_image_56 : decode cX11_image 56 = .ok (.iload_n 3, 1) := by decide +kernel
theorem dX11_image_57 : decode cX11_image 57 = .ok (.iadd, 1) := by decide +kernel
theorem dX11_image_58 : decode cX11_image 58 = .ok (.iconst 0, 1) := by decide +kernel
theorem dX11_image_59 : decode cX11_image 59 = .ok (.iastore, 1) := by decide +kernel
theorem dX11_image_60 : decode cX11_image 60 = .ok (.iinc 3 1, 3) := by decide +kernel
theorem dX11_image_63 : decode cX11_image 63 = .ok (.goto (-19), 3) := by decide +kernel
theorem dX11_image_66 : decode cX11_image 66 = .ok (.iload_n 1, 1) := by decide +kernel
theorem dX11_image_67 : decode cX11_image 67 = .ok (.iload_n 2, 1) := by decide +kernel
theorem dX11_image_68 : decode cX11_image 68 = .ok (.imul, 1) := by decide +kernel
theorem dX11_image_69 : decode cX11_image 69 = .ok (.ireturn, 1) := by decide +kernel
theorem dX11_paint_0 : decode cX11_paint 0 = .ok (.aload_n 0, 1) := by decide +kernel
theorem dX11_paint_1 : decode cX11_paint 1 = .ok (.iload_n 1, 1) := by decide +kernel
theorem dX11_paint_2 : decode cX11_paint 2 = .ok (.iload_n 2, 1) := by decide +kernel
theorem dX11_paint_3 : decode cX11_paint 3 = .ok (.invokevirtual 87, 3) := by decide +kernel
theorem dX11_paint_6 : decode cX11_paint 6 = .ok (.ifCond .eq 40, 3) := by decide +kernel
theorem dX11_paint_9 : decode cX11_paint 9 = .ok (.iload_n 3, 1) := by decide +kernel
theorem dX11_paint_10 : decode cX11_paint 10 = .ok (.iconst 1, 1) := by decide +kernel
theorem dX11_paint_11 : decode cX11_paint 11 = .ok (.aload_n 0, 1) := by decide +kernel
theorem dX11_paint_12 : decode cX11_paint 12 = .ok (.getfield 7, 3) := by decide +kernel
theorem dX11_paint_15 : decode cX11_paint 15 = .ok (.iconst 0, 1) := by decide +kernel
theorem dX11_paint_16 : decode cX11_paint 16 = .ok (.iaload, 1) := by decide +kernel
theorem dX11_paint_17 : decode cX11_paint 17 = .ok (.iload_n 1, 1) := by decide +kernel
theorem dX11_paint_18 : decode cX11_paint 18 = .ok (.isub, 1) := by decide +kernel
theorem dX11_paint_19 : decode cX11_paint 19 = .ok (.invokestatic 57, 3) := by decide +kernel
theorem dX11_paint_22 : decode cX11_paint 22 = .ok (.ifCond .eq 24, 3) := by decide +kernel
theorem dX11_paint_25 : decode cX11_paint 25 = .ok (.iload 4, 2) := by decide +kernel
theorem dX11_paint_27 : decode cX11_paint 27 = .ok (.iconst 1, 1) := by decide +kernel
theorem dX11_paint_28 : decode cX11_paint 28 = .ok (.aload_n 0, 1) := by decide +kernel
theorem dX11_paint_29 : decode cX11_paint 29 = .ok (.getfield 7, 3) := by decide +kernel
theorem dX11_paint_32 : decode cX11_paint 32 = .ok (.iconst 1, 1) := by decide +kernel
theorem dX11_paint_33 : decode cX11_paint 33 = .ok (.iaload, 1) := by decide +kernel
theorem dX11_paint_34 : decode cX11_paint 34 = .ok (.iload_n 2, 1) := by decide +kernel
theorem dX11_paint_35 : decode cX11_paint 35 = .ok (.isub, 1) := by decide +kernel
theorem dX11_paint_36 : decode cX11_paint 36 = .ok (.invokestatic 57, 3) := by decide +kernel
theorem dX11_paint_39 : decode cX11_paint 39 = .ok (.ifCond .eq 7, 3) := by decide +kernel
theorem dX11_paint_42 : decode cX11_paint 42 = .ok (.iconst 1, 1) := by decide +kernel
theorem dX11_paint_43 : decode cX11_paint 43 = .ok (.goto 4, 3) := by decide +kernel
theorem dX11_paint_46 : decode cX11_paint 46 = .ok (.iconst 0, 1) := by decide +kernel
theorem dX11_paint_47 : decode cX11_paint 47 = .ok (.istore 6, 2) := by decide +kernel
theorem dX11_paint_49 : decode cX11_paint 49 = .ok (.iload 6, 2) := by decide +kernel
theorem dX11_paint_51 : decode cX11_paint 51 = .ok (.ifCond .eq 17, 3) := by decide +kernel
theorem dX11_paint_54 : decode cX11_paint 54 = .ok (.iload 5, 2) := by decide +kernel
theorem dX11_paint_56 : decode cX11_paint 56 = .ok (.iconst (-1), 1) := by decide +kernel
theorem dX11_paint_57 : decode cX11_paint 57 = .ok (.if_icmp .eq 14, 3) := by decide +kernel
theorem dX11_paint_60 : decode cX11_paint 60 = .ok (.iload 5, 2) := by decide +kernel
theorem dX11_paint_62 : decode cX11_paint 62 = .ok (.invokestatic 91, 3) := by decide +kernel
theorem dX11_paint_65 : decode cX11_paint 65 = .ok (.ifCond .ne 6, 3) := by decide +kernel
theorem dX11_paint_68 : decode cX11_paint 68 = .ok (.bipush (-2), 2) := by decide +kernel
theorem dX11_paint_70 : decode cX11_paint 70 = .ok (.ireturn, 1) := by decide +kernel
theorem dX11_paint_71 : decode cX11_paint 71 = .ok (.aload_n 0, 1) := by decide +kernel
theorem dX11_paint_72 : decode cX11_paint 72 = .ok (.iconst 1, 1) := by decide +kernel
theorem dX11_paint_73 : decode cX11_paint 73 = .ok (.invokevirtual 83, 3) := by decide +kernel
theorem dX11_paint_76 : decode cX11_paint 76 = .ok (.iconst 0, 1) := by decide +kernel
theorem dX11_paint_77 : decode cX11_paint 77 = .ok (.istore 7, 2) := by decide +kernel
theorem dX11_paint_79 : decode cX11_paint 79 = .ok (.iload 7, 2) := by decide +kernel
theorem dX11_paint_81 : decode cX11_paint 81 = .ok (.iload_n 3, 1) := by decide +kernel
theorem dX11_paint_82 : decode cX11_paint 82 = .ok (.iload 4, 2) := by decide +kernel
theorem dX11_paint_84 : decode cX11_paint 84 = .ok (.imul, 1) := by decide +kernel
theorem dX11_paint_85 : decode cX11_paint 85 = .ok (.if_icmp .ge 42, 3) := by decide +kernel
theorem dX11_paint_88 : decode cX11_paint 88 = .ok (.iload_n 2, 1) := by decide +kernel
theorem dX11_paint_89 : decode cX11_paint 89 = .ok (.iload 7, 2) := by decide +kernel
theorem dX11_paint_91 : decode cX11_paint 91 = .ok (.iload_n 3, 1) := by decide +kernel
theorem dX11_paint_92 : decode cX11_paint 92 = .ok (.idiv, 1) := by decide +kernel
theorem dX11_paint_93 : decode cX11_paint 93 = .ok (.iadd, 1) := by decide +kernel
theorem dX11_paint_94 : decode cX11_paint 94 = .ok (.aload_n 0, 1) := by decide +kernel
theorem dX11_paint_95 : decode cX11_paint 95 = .ok (.getfield 7, 3) := by decide +kernel
theorem dX11_paint_98 : decode cX11_paint 98 = .ok (.iconst 0, 1) := by decide +kernel
theorem dX11_paint_99 : decode cX11_paint 99 = .ok (.iaload, 1) := by decide +kernel
theorem dX11_paint_100 : decode cX11_paint 100 = .ok (.imul, 1) := by decide +kernel
theorem dX11_paint_101 : decode cX11_paint 101 = .ok (.iload_n 1, 1) := by decide +kernel
theorem dX11_paint_102 : decode cX11_paint 102 = .ok (.iadd, 1) := by decide +kernel
theorem dX11_paint_103 : decode cX11_paint 103 = .ok (.iload 7, 2) := by decide +kernel
theorem dX11_paint_105 : decode cX11_paint 105 = .ok (.iload_n 3, 1) := by decide +kernel
theorem dX11_paint_106 : decode cX11_paint 106 = .ok (.irem, 1) := by decide +kernel
theorem dX11_paint_107 : decode cX11_paint 107 = .ok (.iadd, 1) := by decide +kernel
theorem dX11_paint_108 : decode cX11_paint 108 = .ok (.istore 8, 2) := by decide +kernel
theorem dX11_paint_110 : decode cX11_paint 110 = .ok (.aload_n 0, 1) := by decide +kernel
theorem dX11_paint_111 : decode cX11_paint 111 = .ok (.getfield 7, 3) := by decide +kernel
theorem dX11_paint_114 : decode cX11_paint 114 = .ok (.iconst 2, 1) := by decide +kernel
theorem dX11_paint_115 : decode cX11_paint 115 = .ok (.iload 8, 2) := by decide +kernel
theorem dX11_paint_117 : decode cX11_paint 117 = .ok (.iadd, 1) := by decide +kernel
theorem dX11_paint_118 : decode cX11_paint 118 = .ok (.iload 5, 2) := by decide +kernel
theorem dX11_paint_120 : decode cX11_paint 120 = .ok (.iastore, 1) := by decide +kernel
theorem dX11_paint_121 : decode cX11_paint 121 = .ok (.iinc 7 1, 3) := by decide +kernel
theorem dX11_paint_124 : decode cX11_paint 124 = .ok (.goto (-45), 3) := by decide +kernel
theorem dX11_paint_127 : decode cX11_paint 127 = .ok (.iload_n 3, 1) := by decide +kernel
theorem dX11_paint_128 : decode cX11_paint 128 = .ok (.iload 4, 2) := by decide +kernel
theorem dX11_paint_130 : decode cX11_paint 130 = .ok (.imul, 1) := by decide +kernel
theorem dX11_paint_131 : decode cX11_paint 131 = .ok (.ireturn, 1) := by decide +kernel
theorem dX11_step_0 : decode cX11_step 0 = .ok (.iload_n 3, 1) := by decide +kernel
theorem dX11_step_1 : decode cX11_step 1 = .ok (.iconst 1, 1) := by decide +kernel
theorem dX11_step_2 : decode cX11_step 2 = .ok (.if_icmp .ne 7, 3) := by decide +kernel
theorem dX11_step_5 : decode cX11_step 5 = .ok (.iload_n 0, 1) := by decide +kernel
theorem dX11_step_6 : decode cX11_step 6 = .ok (.goto 14, 3) := by decide +kernel
theorem dX11_step_9 : decode cX11_step 9 = .ok (.iload_n 0, 1) := by decide +kernel
theorem dX11_step_10 : decode cX11_step 10 = .ok (.iload_n 1, 1) := by decide +kernel
theorem dX11_step_11 : decode cX11_step 11 = .ok (.iload_n 0, 1) := by decide +kernel
theorem dX11_step_12 : decode cX11_step 12 = .ok (.isub, 1) := by decide +kernel
theorem dX11_step_13 : decode cX11_step 13 = .ok (.iload_n 2, 1) := by decide +kernel
theorem dX11_step_14 : decode cX11_step 14 = .ok (.imul, 1) := by decide +kernel
theorem dX11_step_15 : decode cX11_step 15 = .ok (.iload_n 3, 1) := by decide +kernel
theorem dX11_step_16 : decode cX11_step 16 = .ok (.iconst 1, 1) := by decide +kernel
theorem dX11_step_17 : decode cX11_step 17 = .ok (.isub, 1) := by decide +kernel
theorem dX11_step_18 : decode cX11_step 18 = .ok (.idiv, 1) := by decide +kernel
theorem dX11_step_19 : decode cX11_step 19 = .ok (.iadd, 1) := by decide +kernel
theorem dX11_step_20 : decode cX11_step 20 = .ok (.ireturn, 1) := by decide +kernel
theorem dX11_gradient_0 : decode cX11_gradient 0 = .ok (.iload_n 1, 1) := by decide +kernel
theorem dX11_gradient_1 : decode cX11_gradient 1 = .ok (.invokestatic 91, 3) := by decide +kernel
theorem dX11_gradient_4 : decode cX11_gradient 4 = .ok (.ifCond .eq 10, 3) := by decide +kernel
theorem dX11_gradient_7 : decode cX11_gradient 7 = .ok (.iload_n 2, 1) := by decide +kernel
theorem dX11_gradient_8 : decode cX11_gradient 8 = .ok (.invokestatic 91, 3) := by decide +kernel
theorem dX11_gradient_11 : decode cX11_gradient 11 = .ok (.ifCond .ne 6, 3) := by decide +kernel
theorem dX11_gradient_14 : decode cX11_gradient 14 = .ok (.bipush (-2), 2) := by decide +kernel
theorem dX11_gradient_16 : decode cX11_gradient 16 = .ok (.ireturn, 1) := by decide +kernel
theorem dX11_gradient_17 : decode cX11_gradient 17 = .ok (.aload_n 0, 1) := by decide +kernel
theorem dX11_gradient_18 : decode cX11_gradient 18 = .ok (.iconst 1, 1) := by decide +kernel
theorem dX11_gradient_19 : decode cX11_gradient 19 = .ok (.invokevirtual 83, 3) := by decide +kernel
theorem dX11_gradient_22 : decode cX11_gradient 22 = .ok (.iload_n 3, 1) := by decide +kernel
theorem dX11_gradient_23 : decode cX11_gradient 23 = .ok (.ifCond .eq 12, 3) := by decide +kernel
theorem dX11_gradient_26 : decode cX11_gradient 26 = .ok (.aload_n 0, 1) := by decide +kernel
theorem dX11_gradient_27 : decode cX11_gradient 27 = .ok (.getfield 7, 3) := by decide +kernel
theorem dX11_gradient_30 : decode cX11_gradient 30 = .ok (.iconst 1, 1) := by decide +kernel
theorem dX11_gradient_31 : decode cX11_gradient 31 = .ok (.iaload, 1) := by decide +kernel
theorem dX11_gradient_32 : decode cX11_gradient 32 = .ok (.goto 9, 3) := by decide +kernel
theorem dX11_gradient_35 : decode cX11_gradient 35 = .ok (.aload_n 0, 1) := by decide +kernel
theorem dX11_gradient_36 : decode cX11_gradient 36 = .ok (.getfield 7, 3) := by decide +kernel
theorem dX11_gradient_39 : decode cX11_gradient 39 = .ok (.iconst 0, 1) := by decide +kernel
theorem dX11_gradient_40 : decode cX11_gradient 40 = .ok (.iaload, 1) := by decide +kernel
theorem dX11_gradient_41 : decode cX11_gradient 41 = .ok (.istore 4, 2) := by decide +kernel
theorem dX11_gradient_43 : decode cX11_gradient 43 = .ok (.iconst 0, 1) := by decide +kernel
theorem dX11_gradient_44 : decode cX11_gradient 44 = .ok (.istore 5, 2) := by decide +kernel
theorem dX11_gradient_46 : decode cX11_gradient 46 = .ok (.iload 5, 2) := by decide +kernel
theorem dX11_gradient_48 : decode cX11_gradient 48 = .ok (.aload_n 0, 1) := by decide +kernel
theorem dX11_gradient_49 : decode cX11_gradient 49 = .ok (.invokevirtual 61, 3) := by decide +kernel
theorem dX11_gradient_52 : decode cX11_gradient 52 = .ok (.if_icmp .ge 93, 3) := by decide +kernel
theorem dX11_gradient_55 : decode cX11_gradient 55 = .ok (.iload_n 3, 1) := by decide +kernel
theorem dX11_gradient_56 : decode cX11_gradient 56 = .ok (.ifCond .eq 15, 3) := by decide +kernel
theorem dX11_gradient_59 : decode cX11_gradient 59 = .ok (.iload 5, 2) := by decide +kernel
theorem dX11_gradient_61 : decode cX11_gradient 61 = .ok (.aload_n 0, 1) := by decide +kernel
theorem dX11_gradient_62 : decode cX11_gradient 62 = .ok (.getfield 7, 3) := by decide +kernel
theorem dX11_gradient_65 : decode cX11_gradient 65 = .ok (.iconst 0, 1) := by decide +kernel
theorem dX11_gradient_66 : decode cX11_gradient 66 = .ok (.iaload, 1) := by decide +kernel
theorem dX11_gradient_67 : decode cX11_gradient 67 = .ok (.idiv, 1) := by decide +kernel
theorem dX11_gradient_68 : decode cX11_gradient 68 = .ok (.goto 12, 3) := by decide +kernel
theorem dX11_gradient_71 : decode cX11_gradient 71 = .ok (.iload 5, 2) := by decide +kernel
theorem dX11_gradient_73 : decode cX11_gradient 73 = .ok (.aload_n 0, 1) := by decide +kernel
theorem dX11_gradient_74 : decode cX11_gradient 74 = .ok (.getfield 7, 3) := by decide +kernel
theorem dX11_gradient_77 : decode cX11_gradient 77 = .ok (.iconst 0, 1) := by decide +kernel
theorem dX11_gradient_78 : decode cX11_gradient 78 = .ok (.iaload, 1) := by decide +kernel
theorem dX11_gradient_79 : decode cX11_gradient 79 = .ok (.irem, 1) := by decide +kernel
theorem dX11_gradient_80 : decode cX11_gradient 80 = .ok (.istore 6, 2) := by decide +kernel
theorem dX11_gradient_82 : decode cX11_gradient 82 = .ok (.iconst 0, 1) := by decide +kernel
theorem dX11_gradient_83 : decode cX11_gradient 83 = .ok (.istore 7, 2) := by decide +kernel
theorem dX11_gradient_85 : decode cX11_gradient 85 = .ok (.iconst 0, 1) := by decide +kernel
theorem dX11_gradient_86 : decode cX11_gradient 86 = .ok (.istore 8, 2) := by decide +kernel
theorem dX11_gradient_88 : decode cX11_gradient 88 = .ok (.iload 8, 2) := by decide +kernel
theorem dX11_gradient_90 : decode cX11_gradient 90 = .ok (.iconst 3, 1) := by decide +kernel
theorem dX11_gradient_91 : decode cX11_gradient 91 = .ok (.if_icmp .ge 37, 3) := by decide +kernel
theorem dX11_gradient_94 : decode cX11_gradient 94 = .ok (.sipush 256, 3) := by decide +kernel
theorem dX11_gradient_97 : decode cX11_gradient 97 = .ok (.iload 7, 2) := by decide +kernel
theorem dX11_gradient_99 : decode cX11_gradient 99 = .ok (.imul, 1) := by decide +kernel
theorem dX11_gradient_100 : decode cX11_gradient 100 = .ok (.iload_n 1, 1) := by decide +kernel
theorem dX11_gradient_101 : decode cX11_gradient 101 = .ok (.iload 8, 2) := by decide +kernel
theorem dX11_gradient_103 : decode cX11_gradient 103 = .ok (.invokestatic 69, 3) := by decide +kernel
theorem dX11_gradient_106 : decode cX11_gradient 106 = .ok (.iload_n 2, 1) := by decide +kernel
theorem dX11_gradient_107 : decode cX11_gradient 107 = .ok (.iload 8, 2) := by decide +kernel
theorem dX11_gradient_109 : decode cX11_gradient 109 = .ok (.invokestatic 69, 3) := by decide +kernel
theorem dX11_gradient_112 : decode cX11_gradient 112 = .ok (.iload 6, 2) := by decide +kernel
theorem dX11_gradient_114 : decode cX11_gradient 114 = .ok (.iload 4, 2) := by decide +kernel
theorem dX11_gradient_116 : decode cX11_gradient 116 = .ok (.invokestatic 94, 3) := by decide +kernel
theorem dX11_gradient_119 : decode cX11_gradient 119 = .ok (.iadd, 1) := by decide +kernel
theorem dX11_gradient_120 : decode cX11_gradient 120 = .ok (.istore 7, 2) := by decide +kernel
theorem dX11_gradient_122 : decode cX11_gradient 122 = .ok (.iinc 8 1, 3) := by decide +kernel
theorem dX11_gradient_125 : decode cX11_gradient 125 = .ok (.goto (-37), 3) := by decide +kernel
theorem dX11_gradient_128 : decode cX11_gradient 128 = .ok (.aload_n 0, 1) := by decide +kernel
theorem dX11_gradient_129 : decode cX11_gradient 129 = .ok (.getfield 7, 3) := by decide +kernel
theorem dX11_gradient_132 : decode cX11_gradient 132 = .ok (.iconst 2, 1) := by decide +kernel
theorem dX11_gradient_133 : decode cX11_gradient 133 = .ok (.iload 5, 2) := by decide +kernel
theorem dX11_gradient_135 : decode cX11_gradient 135 = .ok (.iadd, 1) := by decide +kernel
theorem dX11_gradient_136 : decode cX11_gradient 136 = .ok (.iload 7, 2) := by decide +kernel
theorem dX11_gradient_138 : decode cX11_gradient 138 = .ok (.iastore, 1) := by decide +kernel
theorem dX11_gradient_139 : decode cX11_gradient 139 = .ok (.iinc 5 1, 3) := by decide +kernel
theorem dX11_gradient_142 : decode cX11_gradient 142 = .ok (.goto (-96), 3) := by decide +kernel
theorem dX11_gradient_145 : decode cX11_gradient 145 = .ok (.aload_n 0, 1) := by decide +kernel
theorem dX11_gradient_146 : decode cX11_gradient 146 = .ok (.invokevirtual 61, 3) := by decide +kernel
theorem dX11_gradient_149 : decode cX11_gradient 149 = .ok (.ireturn, 1) := by decide +kernel
theorem dX11_noise_0 : decode cX11_noise 0 = .ok (.iload_n 1, 1) := by decide +kernel
theorem dX11_noise_1 : decode cX11_noise 1 = .ok (.ifCond .lt 13, 3) := by decide +kernel
theorem dX11_noise_4 : decode cX11_noise 4 = .ok (.iload_n 2, 1) := by decide +kernel
theorem dX11_noise_5 : decode cX11_noise 5 = .ok (.iconst 1, 1) := by decide +kernel
theorem dX11_noise_6 : decode cX11_noise 6 = .ok (.bipush 64, 2) := by decide +kernel
theorem dX11_noise_8 : decode cX11_noise 8 = .ok (.invokestatic 57, 3) := by decide +kernel
theorem dX11_noise_11 : decode cX11_noise 11 = .ok (.ifCond .ne 6, 3) := by decide +kernel
theorem dX11_noise_14 : decode cX11_noise 14 = .ok (.bipush (-2), 2) := by decide +kernel
theorem dX11_noise_16 : decode cX11_noise 16 = .ok (.ireturn, 1) := by decide +kernel
theorem dX11_noise_17 : decode cX11_noise 17 = .ok (.aload_n 0, 1) := by decide +kernel
theorem dX11_noise_18 : decode cX11_noise 18 = .ok (.iconst 1, 1) := by decide +kernel
theorem dX11_noise_19 : decode cX11_noise 19 = .ok (.invokevirtual 83, 3) := by decide +kernel
theorem dX11_noise_22 : decode cX11_noise 22 = .ok (.iload_n 1, 1) := by decide +kernel
theorem dX11_noise_23 : decode cX11_noise 23 = .ok (.i2l, 1) := by decide +kernel
theorem dX11_noise_24 : decode cX11_noise 24 = .ok (.lstore_n 3, 1) := by decide +kernel
theorem dX11_noise_25 : decode cX11_noise 25 = .ok (.iconst 0, 1) := by decide +kernel
theorem dX11_noise_26 : decode cX11_noise 26 = .ok (.istore 5, 2) := by decide +kernel
theorem dX11_noise_28 : decode cX11_noise 28 = .ok (.iload 5, 2) := by decide +kernel
theorem dX11_noise_30 : decode cX11_noise 30 = .ok (.aload_n 0, 1) := by decide +kernel
theorem dX11_noise_31 : decode cX11_noise 31 = .ok (.invokevirtual 61, 3) := by decide +kernel
theorem dX11_noise_34 : decode cX11_noise 34 = .ok (.if_icmp .ge 122, 3) := by decide +kernel
theorem dX11_noise_37 : decode cX11_noise 37 = .ok (.iconst 0, 1) := by decide +kernel
theorem dX11_noise_38 : decode cX11_noise 38 = .ok (.istore 6, 2) := by decide +kernel
theorem dX11_noise_40 : decode cX11_noise 40 = .ok (.iconst 0, 1) := by decide +kernel
theorem dX11_noise_41 : decode cX11_noise 41 = .ok (.istore 7, 2) := by decide +kernel
theorem dX11_noise_43 : decode cX11_noise 43 = .ok (.iload 7, 2) := by decide +kernel
theorem dX11_noise_45 : decode cX11_noise 45 = .ok (.iconst 3, 1) := by decide +kernel
theorem dX11_noise_46 : decode cX11_noise 46 = .ok (.if_icmp .ge 80, 3) := by decide +kernel
theorem dX11_noise_49 : decode cX11_noise 49 = .ok (.aload_n 0, 1) := by decide +kernel
theorem dX11_noise_50 : decode cX11_noise 50 = .ok (.iload 5, 2) := by decide +kernel
theorem dX11_noise_52 : decode cX11_noise 52 = .ok (.invokevirtual 65, 3) := by decide +kernel
theorem dX11_noise_55 : decode cX11_noise 55 = .ok (.ifCond .eq 71, 3) := by decide +kernel
theorem dX11_noise_58 : decode cX11_noise 58 = .ok (.ldc2_w 98, 3) := by decide +kernel
theorem dX11_noise_61 : decode cX11_noise 61 = .ok (.lload_n 3, 1) := by decide +kernel
theorem dX11_noise_62 : decode cX11_noise 62 = .ok (.lmul, 1) := by decide +kernel
theorem dX11_noise_63 : decode cX11_noise 63 = .ok (.ldc2_w 100, 3) := by decide +kernel
theorem dX11_noise_66 : decode cX11_noise 66 = .ok (.ladd, 1) := by decide +kernel
theorem dX11_noise_67 : decode cX11_noise 67 = .ok (.ldc2_w 102, 3) := by decide +kernel
theorem dX11_noise_70 : decode cX11_noise 70 = .ok (.lrem, 1) := by decide +kernel
theorem dX11_noise_71 : decode cX11_noise 71 = .ok (.lstore_n 3, 1) := by decide +kernel
theorem dX11_noise_72 : decode cX11_noise 72 = .ok (.lload_n 3, 1) := by decide +kernel
theorem dX11_noise_73 : decode cX11_noise 73 = .ok (.ldc2_w 104, 3) := by decide +kernel
theorem dX11_noise_76 : decode cX11_noise 76 = .ok (.ldiv, 1) := by decide +kernel
theorem dX11_noise_77 : decode cX11_noise 77 = .ok (.ldc2_w 106, 3) := by decide +kernel
theorem dX11_noise_80 : decode cX11_noise 80 = .ok (.iload_n 2, 1) := by decide +kernel
theorem dX11_noise_81 : decode cX11_noise 81 = .ok (.i2l, 1) := by decide +kernel
theorem dX11_noise_82 : decode cX11_noise 82 = .ok (.lmul, 1) := by decide +kernel
theorem dX11_noise_83 : decode cX11_noise 83 = .ok (.lconst 1, 1) := by decide +kernel
theorem dX11_noise_84 : decode cX11_noise 84 = .ok (.ladd, 1) := by decide +kernel
theorem dX11_noise_85 : decode cX11_noise 85 = .ok (.lrem, 1) := by decide +kernel
theorem dX11_noise_86 : decode cX11_noise 86 = .ok (.l2i, 1) := by decide +kernel
theorem dX11_noise_87 : decode cX11_noise 87 = .ok (.iload_n 2, 1) := by decide +kernel
theorem dX11_noise_88 : decode cX11_noise 88 = .ok (.isub, 1) := by decide +kernel
theorem dX11_noise_89 : decode cX11_noise 89 = .ok (.istore 8, 2) := by decide +kernel
theorem dX11_noise_91 : decode cX11_noise 91 = .ok (.sipush 256, 3) := by decide +kernel
theorem dX11_noise_94 : decode cX11_noise 94 = .ok (.iload 6, 2) := by decide +kernel
theorem dX11_noise_96 : decode cX11_noise 96 = .ok (.imul, 1) := by decide +kernel
theorem dX11_noise_97 : decode cX11_noise 97 = .ok (.aload_n 0, 1) := by decide +kernel
theorem dX11_noise_98 : decode cX11_noise 98 = .ok (.getfield 7, 3) := by decide +kernel
theorem dX11_noise_101 : decode cX11_noise 101 = .ok (.iconst 2, 1) := by decide +kernel
theorem dX11_noise_102 : decode cX11_noise 102 = .ok (.iload 5, 2) := by decide +kernel
theorem dX11_noise_104 : decode cX11_noise 104 = .ok (.iadd, 1) := by decide +kernel
theorem dX11_noise_105 : decode cX11_noise 105 = .ok (.iaload, 1) := by decide +kernel
theorem dX11_noise_106 : decode cX11_noise 106 = .ok (.iload 7, 2) := by decide +kernel
theorem dX11_noise_108 : decode cX11_noise 108 = .ok (.invokestatic 69, 3) := by decide +kernel
theorem dX11_noise_111 : decode cX11_noise 111 = .ok (.iload 8, 2) := by decide +kernel
theorem dX11_noise_113 : decode cX11_noise 113 = .ok (.iadd, 1) := by decide +kernel
theorem dX11_noise_114 : decode cX11_noise 114 = .ok (.invokestatic 108, 3) := by decide +kernel
theorem dX11_noise_117 : decode cX11_noise 117 = .ok (.iadd, 1) := by decide +kernel
theorem dX11_noise_118 : decode cX11_noise 118 = .ok (.istore 6, 2) := by decide +kernel
theorem dX11_noise_120 : decode cX11_noise 120 = .ok (.iinc 7 1, 3) := by decide +kernel
theorem dX11_noise_123 : decode cX11_noise 123 = .ok (.goto (-80), 3) := by decide +kernel
theorem dX11_noise_126 : decode cX11_noise 126 = .ok (.aload_n 0, 1) := by decide +kernel
theorem dX11_noise_127 : decode cX11_noise 127 = .ok (.getfield 7, 3) := by decide +kernel
theorem dX11_noise_130 : decode cX11_noise 130 = .ok (.iconst 2, 1) := by decide +kernel
theorem dX11_noise_131 : decode cX11_noise 131 = .ok (.iload 5, 2) := by decide +kernel
theorem dX11_noise_133 : decode cX11_noise 133 = .ok (.iadd, 1) := by decide +kernel
theorem dX11_noise_134 : decode cX11_noise 134 = .ok (.aload_n 0, 1) := by decide +kernel
theorem dX11_noise_135 : decode cX11_noise 135 = .ok (.iload 5, 2) := by decide +kernel
theorem dX11_noise_137 : decode cX11_noise 137 = .ok (.invokevirtual 65, 3) := by decide +kernel
theorem dX11_noise_140 : decode cX11_noise 140 = .ok (.ifCond .eq 8, 3) := by decide +kernel
theorem dX11_noise_143 : decode cX11_noise 143 = .ok (.iload 6, 2) := by decide +kernel
theorem dX11_noise_145 : decode cX11_noise 145 = .ok (.goto 4, 3) := by decide +kernel
theorem dX11_noise_148 : decode cX11_noise 148 = .ok (.iconst (-1), 1) := by decide +kernel
theorem dX11_noise_149 : decode cX11_noise 149 = .ok (.iastore, 1) := by decide +kernel
theorem dX11_noise_150 : decode cX11_noise 150 = .ok (.iinc 5 1, 3) := by decide +kernel
theorem dX11_noise_153 : decode cX11_noise 153 = .ok (.goto (-125), 3) := by decide +kernel
theorem dX11_noise_156 : decode cX11_noise 156 = .ok (.aload_n 0, 1) := by decide +kernel
theorem dX11_noise_157 : decode cX11_noise 157 = .ok (.invokevirtual 112, 3) := by decide +kernel
theorem dX11_noise_160 : decode cX11_noise 160 = .ok (.ireturn, 1) := by decide +kernel
theorem dX11_pixel_0 : decode cX11_pixel 0 = .ok (.aload_n 0, 1) := by decide +kernel
theorem dX11_pixel_1 : decode cX11_pixel 1 = .ok (.iload_n 1, 1) := by decide +kernel
theorem dX11_pixel_2 : decode cX11_pixel 2 = .ok (.iload_n 2, 1) := by decide +kernel
theorem dX11_pixel_3 : decode cX11_pixel 3 = .ok (.invokevirtual 87, 3) := by decide +kernel
theorem dX11_pixel_6 : decode cX11_pixel 6 = .ok (.ifCond .eq 23, 3) := by decide +kernel
theorem dX11_pixel_9 : decode cX11_pixel 9 = .ok (.aload_n 0, 1) := by decide +kernel
theorem dX11_pixel_10 : decode cX11_pixel 10 = .ok (.getfield 7, 3) := by decide +kernel
theorem dX11_pixel_13 : decode cX11_pixel 13 = .ok (.iconst 2, 1) := by decide +kernel
theorem dX11_pixel_14 : decode cX11_pixel 14 = .ok (.iload_n 2, 1) := by decide +kernel
theorem dX11_pixel_15 : decode cX11_pixel 15 = .ok (.aload_n 0, 1) := by decide +kernel
theorem dX11_pixel_16 : decode cX11_pixel 16 = .ok (.getfield 7, 3) := by decide +kernel
theorem dX11_pixel_19 : decode cX11_pixel 19 = .ok (.iconst 0, 1) := by decide +kernel
theorem dX11_pixel_20 : decode cX11_pixel 20 = .ok (.iaload, 1) := by decide +kernel
theorem dX11_pixel_21 : decode cX11_pixel 21 = .ok (.imul, 1) := by decide +kernel
theorem dX11_pixel_22 : decode cX11_pixel 22 = .ok (.iadd, 1) := by decide +kernel
theorem dX11_pixel_23 : decode cX11_pixel 23 = .ok (.iload_n 1, 1) := by decide +kernel
theorem dX11_pixel_24 : decode cX11_pixel 24 = .ok (.iadd, 1) := by decide +kernel
theorem dX11_pixel_25 : decode cX11_pixel 25 = .ok (.iaload, 1) := by decide +kernel
theorem dX11_pixel_26 : decode cX11_pixel 26 = .ok (.goto 5, 3) := by decide +kernel
theorem dX11_pixel_29 : decode cX11_pixel 29 = .ok (.bipush (-2), 2) := by decide +kernel
theorem dX11_pixel_31 : decode cX11_pixel 31 = .ok (.ireturn, 1) := by decide +kernel
theorem dX11_placeOf_0 : decode cX11_placeOf 0 = .ok (.iconst (-1), 1) := by decide +kernel
theorem dX11_placeOf_1 : decode cX11_placeOf 1 = .ok (.istore_n 2, 1) := by decide +kernel
theorem dX11_placeOf_2 : decode cX11_placeOf 2 = .ok (.iconst 0, 1) := by decide +kernel
theorem dX11_placeOf_3 : decode cX11_placeOf 3 = .ok (.istore_n 3, 1) := by decide +kernel
theorem dX11_placeOf_4 : decode cX11_placeOf 4 = .ok (.iload_n 3, 1) := by decide +kernel
theorem dX11_placeOf_5 : decode cX11_placeOf 5 = .ok (.aload_n 0, 1) := by decide +kernel
theorem dX11_placeOf_6 : decode cX11_placeOf 6 = .ok (.getfield 115, 3) := by decide +kernel
theorem dX11_placeOf_9 : decode cX11_placeOf 9 = .ok (.if_icmp .ge 30, 3) := by decide +kernel
theorem dX11_placeOf_12 : decode cX11_placeOf 12 = .ok (.iload_n 2, 1) := by decide +kernel
theorem dX11_placeOf_13 : decode cX11_placeOf 13 = .ok (.iconst (-1), 1) := by decide +kernel
theorem dX11_placeOf_14 : decode cX11_placeOf 14 = .ok (.if_icmp .ne 25, 3) := by decide +kernel
theorem dX11_placeOf_17 : decode cX11_placeOf 17 = .ok (.aload_n 0, 1) := by decide +kernel
theorem dX11_placeOf_18 : decode cX11_placeOf 18 = .ok (.getfield 19, 3) := by decide +kernel
theorem dX11_placeOf_21 : decode cX11_placeOf 21 = .ok (.iload_n 3, 1) := by decide +kernel
theorem dX11_placeOf_22 : decode cX11_placeOf 22 = .ok (.iaload, 1) := by decide +kernel
theorem dX11_placeOf_23 : decode cX11_placeOf 23 = .ok (.iload_n 1, 1) := by decide +kernel
theorem dX11_placeOf_24 : decode cX11_placeOf 24 = .ok (.if_icmp .ne 7, 3) := by decide +kernel
theorem dX11_placeOf_27 : decode cX11_placeOf 27 = .ok (.iload_n 3, 1) := by decide +kernel
theorem dX11_placeOf_28 : decode cX11_placeOf 28 = .ok (.goto 4, 3) := by decide +kernel
theorem dX11_placeOf_31 : decode cX11_placeOf 31 = .ok (.iload_n 2, 1) := by decide +kernel
theorem dX11_placeOf_32 : decode cX11_placeOf 32 = .ok (.istore_n 2, 1) := by decide +kernel
theorem dX11_placeOf_33 : decode cX11_placeOf 33 = .ok (.iinc 3 1, 3) := by decide +kernel
theorem dX11_placeOf_36 : decode cX11_placeOf 36 = .ok (.goto (-32), 3) := by decide +kernel
theorem dX11_placeOf_39 : decode cX11_placeOf 39 = .ok (.iload_n 2, 1) := by decide +kernel
theorem dX11_placeOf_40 : decode cX11_placeOf 40 = .ok (.ireturn, 1) := by decide +kernel
theorem dX11_gathers_0 : decode cX11_gathers 0 = .ok (.aload_n 0, 1) := by decide +kernel
theorem dX11_gathers_1 : decode cX11_gathers 1 = .ok (.iconst 0, 1) := by decide +kernel
theorem dX11_gathers_2 : decode cX11_gathers 2 = .ok (.putfield 115, 3) := by decide +kernel
theorem dX11_gathers_5 : decode cX11_gathers 5 = .ok (.iconst 0, 1) := by decide +kernel
theorem dX11_gathers_6 : decode cX11_gathers 6 = .ok (.istore_n 2, 1) := by decide +kernel
theorem dX11_gathers_7 : decode cX11_gathers 7 = .ok (.iload_n 2, 1) := by decide +kernel
theorem dX11_gathers_8 : decode cX11_gathers 8 = .ok (.aload_n 0, 1) := by decide +kernel
theorem dX11_gathers_9 : decode cX11_gathers 9 = .ok (.invokevirtual 61, 3) := by decide +kernel
theorem dX11_gathers_12 : decode cX11_gathers 12 = .ok (.if_icmp .ge 91, 3) := by decide +kernel
theorem dX11_gathers_15 : decode cX11_gathers 15 = .ok (.aload_n 0, 1) := by decide +kernel
theorem dX11_gathers_16 : decode cX11_gathers 16 = .ok (.getfield 7, 3) := by decide +kernel
theorem dX11_gathers_19 : decode cX11_gathers 19 = .ok (.iconst 2, 1) := by decide +kernel
theorem dX11_gathers_20 : decode cX11_gathers 20 = .ok (.iload_n 2, 1) := by decide +kernel
theorem dX11_gathers_21 : decode cX11_gathers 21 = .ok (.iadd, 1) := by decide +kernel
theorem dX11_gathers_22 : decode cX11_gathers 22 = .ok (.iaload, 1) := by decide +kernel
theorem dX11_gathers_23 : decode cX11_gathers 23 = .ok (.istore_n 3, 1) := by decide +kernel
theorem dX11_gathers_24 : decode cX11_gathers 24 = .ok (.iload_n 3, 1) := by decide +kernel
theorem dX11_gathers_25 : decode cX11_gathers 25 = .ok (.iconst (-1), 1) := by decide +kernel
theorem dX11_gathers_26 : decode cX11_gathers 26 = .ok (.if_icmp .eq 71, 3) := by decide +kernel
theorem dX11_gathers_29 : decode cX11_gathers 29 = .ok (.iload_n 1, 1) := by decide +kernel
theorem dX11_gathers_30 : decode cX11_gathers 30 = .ok (.ifCond .eq 11, 3) := by decide +kernel
theorem dX11_gathers_33 : decode cX11_gathers 33 = .ok (.aload_n 0, 1) := by decide +kernel
theorem dX11_gathers_34 : decode cX11_gathers 34 = .ok (.iload_n 3, 1) := by decide +kernel
theorem dX11_gathers_35 : decode cX11_gathers 35 = .ok (.invokevirtual 118, 3) := by decide +kernel
theorem dX11_gathers_38 : decode cX11_gathers 38 = .ok (.ifCond .ne 59, 3) := by decide +kernel
theorem dX11_gathers_41 : decode cX11_gathers 41 = .ok (.aload_n 0, 1) := by decide +kernel
theorem dX11_gathers_42 : decode cX11_gathers 42 = .ok (.iload_n 3, 1) := by decide +kernel
theorem dX11_gathers_43 : decode cX11_gathers 43 = .ok (.invokevirtual 121, 3) := by decide +kernel
theorem dX11_gathers_46 : decode cX11_gathers 46 = .ok (.istore 4, 2) := by decide +kernel
theorem dX11_gathers_48 : decode cX11_gathers 48 = .ok (.iload 4, 2) := by decide +kernel
theorem dX11_gathers_50 : decode cX11_gathers 50 = .ok (.iconst (-1), 1) := by decide +kernel
theorem dX11_gathers_51 : decode cX11_gathers 51 = .ok (.if_icmp .ne 35, 3) := by decide +kernel
theorem dX11_gathers_54 : decode cX11_gathers 54 = .ok (.aload_n 0, 1) := by decide +kernel
theorem dX11_gathers_55 : decode cX11_gathers 55 = .ok (.getfield 115, 3) := by decide +kernel
theorem dX11_gathers_58 : decode cX11_gathers 58 = .ok (.istore 4, 2) := by decide +kernel
theorem dX11_gathers_60 : decode cX11_gathers 60 = .ok (.aload_n 0, 1) := by decide +kernel
theorem dX11_gathers_61 : decode cX11_gathers 61 = .ok (.getfield 19, 3) := by decide +kernel
theorem dX11_gathers_64 : decode cX11_gathers 64 = .ok (.iload 4, 2) := by decide +kernel
theorem dX11_gathers_66 : decode cX11_gathers 66 = .ok (.iload_n 3, 1) := by decide +kernel
theorem dX11_gathers_67 : decode cX11_gathers 67 = .ok (.iastore, 1) := by decide +kernel
theorem dX11_gathers_68 : decode cX11_gathers 68 = .ok (.aload_n 0, 1) := by decide +kernel
theorem dX11_gathers_69 : decode cX11_gathers 69 = .ok (.getfield 22, 3) := by decide +kernel
theorem dX11_gathers_72 : decode cX11_gathers 72 = .ok (.iload 4, 2) := by decide +kernel
theorem dX11_gathers_74 : decode cX11_gathers 74 = .ok (.iconst 0, 1) := by decide +kernel
theorem dX11_gathers_75 : decode cX11_gathers 75 = .ok (.iastore, 1) := by decide +kernel
theorem dX11_gathers_76 : decode cX11_gathers 76 = .ok (.aload_n 0, 1) := by decide +kernel
theorem dX11_gathers_77 : decode cX11_gathers 77 = .ok (.dup, 1) := by decide +kernel
theorem dX11_gathers_78 : decode cX11_gathers 78 = .ok (.getfield 115, 3) := by decide +kernel
theorem dX11_gathers_81 : decode cX11_gathers 81 = .ok (.iconst 1, 1) := by decide +kernel
theorem dX11_gathers_82 : decode cX11_gathers 82 = .ok (.iadd, 1) := by decide +kernel
theorem dX11_gathers_83 : decode cX11_gathers 83 = .ok (.putfield 115, 3) := by decide +kernel
theorem dX11_gathers_86 : decode cX11_gathers 86 = .ok (.aload_n 0, 1) := by decide +kernel
theorem dX11_gathers_87 : decode cX11_gathers 87 = .ok (.getfield 22, 3) := by decide +kernel
theorem dX11_gathers_90 : decode cX11_gathers 90 = .ok (.iload 4, 2) := by decide +kernel
theorem dX11_gathers_92 : decode cX11_gathers 92 = .ok (.dup2, 1) := by decide +kernel
theorem dX11_gathers_93 : decode cX11_gathers 93 = .ok (.iaload, 1) := by decide +kernel
theorem dX11_gathers_94 : decode cX11_gathers 94 = .ok (.iconst 1, 1) := by decide +kernel
theorem dX11_gathers_95 : decode cX11_gathers 95 = .ok (.iadd, 1) := by decide +kernel
theorem dX11_gathers_96 : decode cX11_gathers 96 = .ok (.iastore, 1) := by decide +kernel
theorem dX11_gathers_97 : decode cX11_gathers 97 = .ok (.iinc 2 1, 3) := by decide +kernel
theorem dX11_gathers_100 : decode cX11_gathers 100 = .ok (.goto (-93), 3) := by decide +kernel
theorem dX11_gathers_103 : decode cX11_gathers 103 = .ok (.return_, 1) := by decide +kernel
theorem dX11_isLockedColor_0 : decode cX11_isLockedColor 0 = .ok (.iconst 0, 1) := by decide +kernel
theorem dX11_isLockedColor_1 : decode cX11_isLockedColor 1 = .ok (.istore_n 2, 1) := by decide +kernel
theorem dX11_isLockedColor_2 : decode cX11_isLockedColor 2 = .ok (.iconst 0, 1) := by decide +kernel
theorem dX11_isLockedColor_3 : decode cX11_isLockedColor 3 = .ok (.istore_n 3, 1) := by decide +kernel
theorem dX11_isLockedColor_4 : decode cX11_isLockedColor 4 = .ok (.iload_n 3, 1) := by decide +kernel
theorem dX11_isLockedColor_5 : decode cX11_isLockedColor 5 = .ok (.aload_n 0, 1) := by decide +kernel
theorem dX11_isLockedColor_6 : decode cX11_isLockedColor 6 = .ok (.getfield 7, 3) := by decide +kernel
theorem dX11_isLockedColor_9 : decode cX11_isLockedColor 9 = .ok (.sipush 258, 3) := by decide +kernel
theorem dX11_isLockedColor_12 : decode cX11_isLockedColor 12 = .ok (.iaload, 1) := by decide +kernel
theorem dX11_isLockedColor_13 : decode cX11_isLockedColor 13 = .ok (.if_icmp .ge 41, 3) := by decide +kernel
theorem dX11_isLockedColor_16 : decode cX11_isLockedColor 16 = .ok (.iload_n 2, 1) := by decide +kernel
theorem dX11_isLockedColor_17 : decode cX11_isLockedColor 17 = .ok (.ifCond .ne 25, 3) := by decide +kernel
theorem dX11_isLockedColor_20 : decode cX11_isLockedColor 20 = .ok (.aload_n 0, 1) := by decide +kernel
theorem dX11_isLockedColor_21 : decode cX11_isLockedColor 21 = .ok (.iload_n 3, 1) := by decide +kernel
theorem dX11_isLockedColor_22 : decode cX11_isLockedColor 22 = .ok (.invokevirtual 124, 3) := by decide +kernel
theorem dX11_isLockedColor_25 : decode cX11_isLockedColor 25 = .ok (.ifCond .eq 21, 3) := by decide +kernel
theorem dX11_isLockedColor_28 : decode cX11_isLockedColor 28 = .ok (.aload_n 0, 1) := by decide +kernel
theorem dX11_isLockedColor_29 : decode cX11_isLockedColor 29 = .ok (.getfield 7, 3) := by decide +kernel
theorem dX11_isLockedColor_32 : decode cX11_isLockedColor 32 = .ok (.sipush 259, 3) := by decide +kernel
theorem dX11_isLockedColor_35 : decode cX11_isLockedColor 35 = .ok (.iload_n 3, 1) := by decide +kernel
theorem dX11_isLockedColor_36 : decode cX11_isLockedColor 36 = .ok (.iadd, 1) := by decide +kernel
theorem dX11_isLockedColor_37 : decode cX11_isLockedColor 37 = .ok (.iaload, 1) := by decide +kernel
theorem dX11_isLockedColor_38 : decode cX11_isLockedColor 38 = .ok (.iload_n 1, 1) := by decide +kernel
theorem dX11_isLockedColor_39 : decode cX11_isLockedColor 39 = .ok (.if_icmp .ne 7, 3) := by decide +kernel
theorem dX11_isLockedColor_42 : decode cX11_isLockedColor 42 = .ok (.iconst 1, 1) := by decide +kernel
theorem dX11_isLockedColor_43 : decode cX11_isLockedColor 43 = .ok (.goto 4, 3) := by decide +kernel
theorem dX11_isLockedColor_46 : decode cX11_isLockedColor 46 = .ok (.iconst 0, 1) := by decide +kernel
theorem dX11_isLockedColor_47 : decode cX11_isLockedColor 47 = .ok (.istore_n 2, 1) := by decide +kernel
theorem dX11_isLockedColor_48 : decode cX11_isLockedColor 48 = .ok (.iinc 3 1, 3) := by decide +kernel
theorem dX11_isLockedColor_51 : decode cX11_isLockedColor 51 = .ok (.goto (-47), 3) := by decide +kernel
theorem dX11_isLockedColor_54 : decode cX11_isLockedColor 54 = .ok (.iload_n 2, 1) := by decide +kernel
theorem dX11_isLockedColor_55 : decode cX11_isLockedColor 55 = .ok (.ireturn, 1) := by decide +kernel
theorem dX11_colors_0 : decode cX11_colors 0 = .ok (.aload_n 0, 1) := by decide +kernel
theorem dX11_colors_1 : decode cX11_colors 1 = .ok (.iconst 0, 1) := by decide +kernel
theorem dX11_colors_2 : decode cX11_colors 2 = .ok (.invokevirtual 127, 3) := by decide +kernel
theorem dX11_colors_5 : decode cX11_colors 5 = .ok (.aload_n 0, 1) := by decide +kernel
theorem dX11_colors_6 : decode cX11_colors 6 = .ok (.getfield 115, 3) := by decide +kernel
theorem dX11_colors_9 : decode cX11_colors 9 = .ok (.ireturn, 1) := by decide +kernel
theorem dX11_rank_0 : decode cX11_rank 0 = .ok (.iconst 0, 1) := by decide +kernel
theorem dX11_rank_1 : decode cX11_rank 1 = .ok (.istore_n 2, 1) := by decide +kernel
theorem dX11_rank_2 : decode cX11_rank 2 = .ok (.iconst 0, 1) := by decide +kernel
theorem dX11_rank_3 : decode cX11_rank 3 = .ok (.istore_n 3, 1) := by decide +kernel
theorem dX11_rank_4 : decode cX11_rank 4 = .ok (.iload_n 3, 1) := by decide +kernel
theorem dX11_rank_5 : decode cX11_rank 5 = .ok (.aload_n 0, 1) := by decide +kernel
theorem dX11_rank_6 : decode cX11_rank 6 = .ok (.getfield 115, 3) := by decide +kernel
theorem dX11_rank_9 : decode cX11_rank 9 = .ok (.if_icmp .ge 62, 3) := by decide +kernel
theorem dX11_rank_12 : decode cX11_rank 12 = .ok (.iload_n 2, 1) := by decide +kernel
theorem dX11_rank_13 : decode cX11_rank 13 = .ok (.aload_n 0, 1) := by decide +kernel
theorem dX11_rank_14 : decode cX11_rank 14 = .ok (.getfield 22, 3) := by decide +kernel
theorem dX11_rank_17 : decode cX11_rank 17 = .ok (.iload_n 3, 1) := by decide +kernel
theorem dX11_rank_18 : decode cX11_rank 18 = .ok (.iaload, 1) := by decide +kernel
theorem dX11_rank_19 : decode cX11_rank 19 = .ok (.aload_n 0, 1) := by decide +kernel
theorem dX11_rank_20 : decode cX11_rank 20 = .ok (.getfield 22, 3) := by decide +kernel
theorem dX11_rank_23 : decode cX11_rank 23 = .ok (.iload_n 1, 1) := by decide +kernel
theorem dX11_rank_24 : decode cX11_rank 24 = .ok (.iaload, 1) := by decide +kernel
theorem dX11_rank_25 : decode cX11_rank 25 = .ok (.if_icmp .gt 33, 3) := by decide +kernel
theorem dX11_rank_28 : decode cX11_rank 28 = .ok (.aload_n 0, 1) := by decide +kernel
theorem dX11_rank_29 : decode cX11_rank 29 = .ok (.getfield 22, 3) := by decide +kernel
theorem dX11_rank_32 : decode cX11_rank 32 = .ok (.iload_n 3, 1) := by decide +kernel
theorem dX11_rank_33 : decode cX11_rank 33 = .ok (.iaload, 1) := by decide +kernel
theorem dX11_rank_34 : decode cX11_rank 34 = .ok (.aload_n 0, 1) := by decide +kernel
theorem dX11_rank_35 : decode cX11_rank 35 = .ok (.getfield 22, 3) := by decide +kernel
theorem dX11_rank_38 : decode cX11_rank 38 = .ok (.iload_n 1, 1) := by decide +kernel
theorem dX11_rank_39 : decode cX11_rank 39 = .ok (.iaload, 1) := by decide +kernel
theorem dX11_rank_40 : decode cX11_rank 40 = .ok (.if_icmp .ne 22, 3) := by decide +kernel
theorem dX11_rank_43 : decode cX11_rank 43 = .ok (.aload_n 0, 1) := by decide +kernel
theorem dX11_rank_44 : decode cX11_rank 44 = .ok (.getfield 19, 3) := by decide +kernel
theorem dX11_rank_47 : decode cX11_rank 47 = .ok (.iload_n 3, 1) := by decide +kernel
theorem dX11_rank_48 : decode cX11_rank 48 = .ok (.iaload, 1) := by decide +kernel
theorem dX11_rank_49 : decode cX11_rank 49 = .ok (.aload_n 0, 1) := by decide +kernel
theorem dX11_rank_50 : decode cX11_rank 50 = .ok (.getfield 19, 3) := by decide +kernel
theorem dX11_rank_53 : decode cX11_rank 53 = .ok (.iload_n 1, 1) := by decide +kernel
theorem dX11_rank_54 : decode cX11_rank 54 = .ok (.iaload, 1) := by decide +kernel
theorem dX11_rank_55 : decode cX11_rank 55 = .ok (.if_icmp .ge 7, 3) := by decide +kernel
theorem dX11_rank_58 : decode cX11_rank 58 = .ok (.iconst 1, 1) := by decide +kernel
theorem dX11_rank_59 : decode cX11_rank 59 = .ok (.goto 4, 3) := by decide +kernel
theorem dX11_rank_62 : decode cX11_rank 62 = .ok (.iconst 0, 1) := by decide +kernel
theorem dX11_rank_63 : decode cX11_rank 63 = .ok (.iadd, 1) := by decide +kernel
theorem dX11_rank_64 : decode cX11_rank 64 = .ok (.istore_n 2, 1) := by decide +kernel
theorem dX11_rank_65 : decode cX11_rank 65 = .ok (.iinc 3 1, 3) := by decide +kernel
theorem dX11_rank_68 : decode cX11_rank 68 = .ok (.goto (-64), 3) := by decide +kernel
theorem dX11_rank_71 : decode cX11_rank 71 = .ok (.iload_n 2, 1) := by decide +kernel
theorem dX11_rank_72 : decode cX11_rank 72 = .ok (.ireturn, 1) := by decide +kernel
theorem dX11_color_0 : decode cX11_color 0 = .ok (.iload_n 1, 1) := by decide +kernel
theorem dX11_color_1 : decode cX11_color 1 = .ok (.ifCond .lt 12, 3) := by decide +kernel
theorem dX11_color_4 : decode cX11_color 4 = .ok (.iload_n 2, 1) := by decide +kernel
theorem dX11_color_5 : decode cX11_color 5 = .ok (.iconst 0, 1) := by decide +kernel
theorem dX11_color_6 : decode cX11_color 6 = .ok (.iconst 1, 1) := by decide +kernel
theorem dX11_color_7 : decode cX11_color 7 = .ok (.invokestatic 57, 3) := by decide +kernel
theorem dX11_color_10 : decode cX11_color 10 = .ok (.ifCond .ne 6, 3) := by decide +kernel
theorem dX11_color_13 : decode cX11_color 13 = .ok (.bipush (-2), 2) := by decide +kernel
theorem dX11_color_15 : decode cX11_color 15 = .ok (.ireturn, 1) := by decide +kernel
theorem dX11_color_16 : decode cX11_color 16 = .ok (.aload_n 0, 1) := by decide +kernel
theorem dX11_color_17 : decode cX11_color 17 = .ok (.iconst 0, 1) := by decide +kernel
theorem dX11_color_18 : decode cX11_color 18 = .ok (.invokevirtual 127, 3) := by decide +kernel
theorem dX11_color_21 : decode cX11_color 21 = .ok (.iconst 0, 1) := by decide +kernel
theorem dX11_color_22 : decode cX11_color 22 = .ok (.istore_n 3, 1) := by decide +kernel
theorem dX11_color_23 : decode cX11_color 23 = .ok (.iload_n 3, 1) := by decide +kernel
theorem dX11_color_24 : decode cX11_color 24 = .ok (.aload_n 0, 1) := by decide +kernel
theorem dX11_color_25 : decode cX11_color 25 = .ok (.getfield 115, 3) := by decide +kernel
theorem dX11_color_28 : decode cX11_color 28 = .ok (.if_icmp .ge 38, 3) := by decide +kernel
theorem dX11_color_31 : decode cX11_color 31 = .ok (.aload_n 0, 1) := by decide +kernel
theorem dX11_color_32 : decode cX11_color 32 = .ok (.iload_n 3, 1) := by decide +kernel
theorem dX11_color_33 : decode cX11_color 33 = .ok (.invokevirtual 130, 3) := by decide +kernel
theorem dX11_color_36 : decode cX11_color 36 = .ok (.iload_n 1, 1) := by decide +kernel
theorem dX11_color_37 : decode cX11_color 37 = .ok (.if_icmp .ne 23, 3) := by decide +kernel
theorem dX11_color_40 : decode cX11_color 40 = .ok (.iload_n 2, 1) := by decide +kernel
theorem dX11_color_41 : decode cX11_color 41 = .ok (.ifCond .ne 12, 3) := by decide +kernel
theorem dX11_color_44 : decode cX11_color 44 = .ok (.aload_n 0, 1) := by decide +kernel
theorem dX11_color_45 : decode cX11_color 45 = .ok (.getfield 19, 3) := by decide +kernel
theorem dX11_color_48 : decode cX11_color 48 = .ok (.iload_n 3, 1) := by decide +kernel
theorem dX11_color_49 : decode cX11_color 49 = .ok (.iaload, 1) := by decide +kernel
theorem dX11_color_50 : decode cX11_color 50 = .ok (.goto 9, 3) := by decide +kernel
theorem dX11_color_53 : decode cX11_color 53 = .ok (.aload_n 0, 1) := by decide +kernel
theorem dX11_color_54 : decode cX11_color 54 = .ok (.getfield 22, 3) := by decide +kernel
theorem dX11_color_57 : decode cX11_color 57 = .ok (.iload_n 3, 1) := by decide +kernel
theorem dX11_color_58 : decode cX11_color 58 = .ok (.iaload, 1) := by decide +kernel
theorem dX11_color_59 : decode cX11_color 59 = .ok (.ireturn, 1) := by decide +kernel
theorem dX11_color_60 : decode cX11_color 60 = .ok (.iinc 3 1, 3) := by decide +kernel
theorem dX11_color_63 : decode cX11_color 63 = .ok (.goto (-40), 3) := by decide +kernel
theorem dX11_color_66 : decode cX11_color 66 = .ok (.iconst (-1), 1) := by decide +kernel
theorem dX11_color_67 : decode cX11_color 67 = .ok (.ireturn, 1) := by decide +kernel
theorem dX11_adds_0 : decode cX11_adds 0 = .ok (.aload_n 0, 1) := by decide +kernel
theorem dX11_adds_1 : decode cX11_adds 1 = .ok (.getfield 7, 3) := by decide +kernel
theorem dX11_adds_4 : decode cX11_adds 4 = .ok (.sipush 258, 3) := by decide +kernel
theorem dX11_adds_7 : decode cX11_adds 7 = .ok (.iaload, 1) := by decide +kernel
theorem dX11_adds_8 : decode cX11_adds 8 = .ok (.istore_n 3, 1) := by decide +kernel
theorem dX11_adds_9 : decode cX11_adds 9 = .ok (.aload_n 0, 1) := by decide +kernel
theorem dX11_adds_10 : decode cX11_adds 10 = .ok (.getfield 7, 3) := by decide +kernel
theorem dX11_adds_13 : decode cX11_adds 13 = .ok (.sipush 259, 3) := by decide +kernel
theorem dX11_adds_16 : decode cX11_adds 16 = .ok (.iload_n 3, 1) := by decide +kernel
theorem dX11_adds_17 : decode cX11_adds 17 = .ok (.iadd, 1) := by decide +kernel
theorem dX11_adds_18 : decode cX11_adds 18 = .ok (.iload_n 1, 1) := by decide +kernel
theorem dX11_adds_19 : decode cX11_adds 19 = .ok (.iastore, 1) := by decide +kernel
theorem dX11_adds_20 : decode cX11_adds 20 = .ok (.aload_n 0, 1) := by decide +kernel
theorem dX11_adds_21 : decode cX11_adds 21 = .ok (.getfield 7, 3) := by decide +kernel
theorem dX11_adds_24 : decode cX11_adds 24 = .ok (.sipush 275, 3) := by decide +kernel
theorem dX11_adds_27 : decode cX11_adds 27 = .ok (.iload_n 3, 1) := by decide +kernel
theorem dX11_adds_28 : decode cX11_adds 28 = .ok (.iadd, 1) := by decide +kernel
theorem dX11_adds_29 : decode cX11_adds 29 = .ok (.iload_n 2, 1) := by decide +kernel
theorem dX11_adds_30 : decode cX11_adds 30 = .ok (.iastore, 1) := by decide +kernel
theorem dX11_adds_31 : decode cX11_adds 31 = .ok (.aload_n 0, 1) := by decide +kernel
theorem dX11_adds_32 : decode cX11_adds 32 = .ok (.getfield 7, 3) := by decide +kernel
theorem dX11_adds_35 : decode cX11_adds 35 = .ok (.sipush 258, 3) := by decide +kernel
theorem dX11_adds_38 : decode cX11_adds 38 = .ok (.dup2, 1) := by decide +kernel
theorem dX11_adds_39 : decode cX11_adds 39 = .ok (.iaload, 1) := by decide +kernel
theorem dX11_adds_40 : decode cX11_adds 40 = .ok (.iconst 1, 1) := by decide +kernel
theorem dX11_adds_41 : decode cX11_adds 41 = .ok (.iadd, 1) := by decide +kernel
theorem dX11_adds_42 : decode cX11_adds 42 = .ok (.iastore, 1) := by decide +kernel
theorem dX11_adds_43 : decode cX11_adds 43 = .ok (.iload_n 3, 1) := by decide +kernel
theorem dX11_adds_44 : decode cX11_adds 44 = .ok (.ireturn, 1) := by decide +kernel
theorem dX11_removes_0 : decode cX11_removes 0 = .ok (.aload_n 0, 1) := by decide +kernel
theorem dX11_removes_1 : decode cX11_removes 1 = .ok (.getfield 7, 3) := by decide +kernel
theorem dX11_removes_4 : decode cX11_removes 4 = .ok (.sipush 258, 3) := by decide +kernel
theorem dX11_removes_7 : decode cX11_removes 7 = .ok (.dup2, 1) := by decide +kernel
theorem dX11_removes_8 : decode cX11_removes 8 = .ok (.iaload, 1) := by decide +kernel
theorem dX11_removes_9 : decode cX11_removes 9 = .ok (.iconst 1, 1) := by decide +kernel
theorem dX11_removes_10 : decode cX11_removes 10 = .ok (.isub, 1) := by decide +kernel
theorem dX11_removes_11 : decode cX11_removes 11 = .ok (.iastore, 1) := by decide +kernel
theorem dX11_removes_12 : decode cX11_removes 12 = .ok (.iload_n 1, 1) := by decide +kernel
theorem dX11_removes_13 : decode cX11_removes 13 = .ok (.istore_n 2, 1) := by decide +kernel
theorem dX11_removes_14 : decode cX11_removes 14 = .ok (.iload_n 2, 1) := by decide +kernel
theorem dX11_removes_15 : decode cX11_removes 15 = .ok (.aload_n 0, 1) := by decide +kernel
theorem dX11_removes_16 : decode cX11_removes 16 = .ok (.getfield 7, 3) := by decide +kernel
theorem dX11_removes_19 : decode cX11_removes 19 = .ok (.sipush 258, 3) := by decide +kernel
theorem dX11_removes_22 : decode cX11_removes 22 = .ok (.iaload, 1) := by decide +kernel
theorem dX11_removes_23 : decode cX11_removes 23 = .ok (.if_icmp .ge 53, 3) := by decide +kernel
theorem dX11_removes_26 : decode cX11_removes 26 = .ok (.aload_n 0, 1) := by decide +kernel
theorem dX11_removes_27 : decode cX11_removes 27 = .ok (.getfield 7, 3) := by decide +kernel
theorem dX11_removes_30 : decode cX11_removes 30 = .ok (.sipush 259, 3) := by decide +kernel
theorem dX11_removes_33 : decode cX11_removes 33 = .ok (.iload_n 2, 1) := by decide +kernel
theorem dX11_removes_34 : decode cX11_removes 34 = .ok (.iadd, 1) := by decide +kernel
theorem dX11_removes_35 : decode cX11_removes 35 = .ok (.aload_n 0, 1) := by decide +kernel
theorem dX11_removes_36 : decode cX11_removes 36 = .ok (.getfield 7, 3) := by decide +kernel
theorem dX11_removes_39 : decode cX11_removes 39 = .ok (.sipush 259, 3) := by decide +kernel
theorem dX11_removes_42 : decode cX11_removes 42 = .ok (.iload_n 2, 1) := by decide +kernel
theorem dX11_removes_43 : decode cX11_removes 43 = .ok (.iadd, 1) := by decide +kernel
theorem dX11_removes_44 : decode cX11_removes 44 = .ok (.iconst 1, 1) := by decide +kernel
theorem dX11_removes_45 : decode cX11_removes 45 = .ok (.iadd, 1) := by decide +kernel
theorem dX11_removes_46 : decode cX11_removes 46 = .ok (.iaload, 1) := by decide +kernel
theorem dX11_removes_47 : decode cX11_removes 47 = .ok (.iastore, 1) := by decide +kernel
theorem dX11_removes_48 : decode cX11_removes 48 = .ok (.aload_n 0, 1) := by decide +kernel
theorem dX11_removes_49 : decode cX11_removes 49 = .ok (.getfield 7, 3) := by decide +kernel
theorem dX11_removes_52 : decode cX11_removes 52 = .ok (.sipush 275, 3) := by decide +kernel
theorem dX11_removes_55 : decode cX11_removes 55 = .ok (.iload_n 2, 1) := by decide +kernel
theorem dX11_removes_56 : decode cX11_removes 56 = .ok (.iadd, 1) := by decide +kernel
theorem dX11_removes_57 : decode cX11_removes 57 = .ok (.aload_n 0, 1) := by decide +kernel
theorem dX11_removes_58 : decode cX11_removes 58 = .ok (.getfield 7, 3) := by decide +kernel
theorem dX11_removes_61 : decode cX11_removes 61 = .ok (.sipush 275, 3) := by decide +kernel
theorem dX11_removes_64 : decode cX11_removes 64 = .ok (.iload_n 2, 1) := by decide +kernel
theorem dX11_removes_65 : decode cX11_removes 65 = .ok (.iadd, 1) := by decide +kernel
theorem dX11_removes_66 : decode cX11_removes 66 = .ok (.iconst 1, 1) := by decide +kernel
theorem dX11_removes_67 : decode cX11_removes 67 = .ok (.iadd, 1) := by decide +kernel
theorem dX11_removes_68 : decode cX11_removes 68 = .ok (.iaload, 1) := by decide +kernel
theorem dX11_removes_69 : decode cX11_removes 69 = .ok (.iastore, 1) := by decide +kernel
theorem dX11_removes_70 : decode cX11_removes 70 = .ok (.iinc 2 1, 3) := by decide +kernel
theorem dX11_removes_73 : decode cX11_removes 73 = .ok (.goto (-59), 3) := by decide +kernel
theorem dX11_removes_76 : decode cX11_removes 76 = .ok (.return_, 1) := by decide +kernel
theorem dX11_add_0 : decode cX11_add 0 = .ok (.iload_n 1, 1) := by decide +kernel
theorem dX11_add_1 : decode cX11_add 1 = .ok (.invokestatic 91, 3) := by decide +kernel
theorem dX11_add_4 : decode cX11_add 4 = .ok (.ifCond .ne 6, 3) := by decide +kernel
theorem dX11_add_7 : decode cX11_add 7 = .ok (.bipush (-2), 2) := by decide +kernel
theorem dX11_add_9 : decode cX11_add 9 = .ok (.ireturn, 1) := by decide +kernel
theorem dX11_add_10 : decode cX11_add 10 = .ok (.aload_n 0, 1) := by decide +kernel
theorem dX11_add_11 : decode cX11_add 11 = .ok (.getfield 7, 3) := by decide +kernel
theorem dX11_add_14 : decode cX11_add 14 = .ok (.sipush 258, 3) := by decide +kernel
theorem dX11_add_17 : decode cX11_add 17 = .ok (.iaload, 1) := by decide +kernel
theorem dX11_add_18 : decode cX11_add 18 = .ok (.bipush 16, 2) := by decide +kernel
theorem dX11_add_20 : decode cX11_add 20 = .ok (.if_icmp .ne 6, 3) := by decide +kernel
theorem dX11_add_23 : decode cX11_add 23 = .ok (.bipush (-4), 2) := by decide +kernel
theorem dX11_add_25 : decode cX11_add 25 = .ok (.ireturn, 1) := by decide +kernel
theorem dX11_add_26 : decode cX11_add 26 = .ok (.aload_n 0, 1) := by decide +kernel
theorem dX11_add_27 : decode cX11_add 27 = .ok (.iconst 1, 1) := by decide +kernel
theorem dX11_add_28 : decode cX11_add 28 = .ok (.invokevirtual 83, 3) := by decide +kernel
theorem dX11_add_31 : decode cX11_add 31 = .ok (.aload_n 0, 1) := by decide +kernel
theorem dX11_add_32 : decode cX11_add 32 = .ok (.iload_n 1, 1) := by decide +kernel
theorem dX11_add_33 : decode cX11_add 33 = .ok (.iload_n 2, 1) := by decide +kernel
theorem dX11_add_34 : decode cX11_add 34 = .ok (.ifCond .eq 7, 3) := by decide +kernel
theorem dX11_add_37 : decode cX11_add 37 = .ok (.iconst 1, 1) := by decide +kernel
theorem dX11_add_38 : decode cX11_add 38 = .ok (.goto 4, 3) := by decide +kernel
theorem dX11_add_41 : decode cX11_add 41 = .ok (.iconst 0, 1) := by decide +kernel
theorem dX11_add_42 : decode cX11_add 42 = .ok (.invokevirtual 133, 3) := by decide +kernel
theorem dX11_add_45 : decode cX11_add 45 = .ok (.ireturn, 1) := by decide +kernel
theorem dX11_remove_0 : decode cX11_remove 0 = .ok (.aload_n 0, 1) := by decide +kernel
theorem dX11_remove_1 : decode cX11_remove 1 = .ok (.iload_n 1, 1) := by decide +kernel
theorem dX11_remove_2 : decode cX11_remove 2 = .ok (.invokevirtual 136, 3) := by decide +kernel
theorem dX11_remove_5 : decode cX11_remove 5 = .ok (.ifCond .ne 6, 3) := by decide +kernel
theorem dX11_remove_8 : decode cX11_remove 8 = .ok (.bipush (-2), 2) := by decide +kernel
theorem dX11_remove_10 : decode cX11_remove 10 = .ok (.ireturn, 1) := by decide +kernel
theorem dX11_remove_11 : decode cX11_remove 11 = .ok (.aload_n 0, 1) := by decide +kernel
theorem dX11_remove_12 : decode cX11_remove 12 = .ok (.iload_n 1, 1) := by decide +kernel
theorem dX11_remove_13 : decode cX11_remove 13 = .ok (.invokevirtual 124, 3) := by decide +kernel
theorem dX11_remove_16 : decode cX11_remove 16 = .ok (.ifCond .eq 6, 3) := by decide +kernel
theorem dX11_remove_19 : decode cX11_remove 19 = .ok (.bipush (-3), 2) := by decide +kernel
theorem dX11_remove_21 : decode cX11_remove 21 = .ok (.ireturn, 1) := by decide +kernel
theorem dX11_remove_22 : decode cX11_remove 22 = .ok (.aload_n 0, 1) := by decide +kernel
theorem dX11_remove_23 : decode cX11_remove 23 = .ok (.iconst 1, 1) := by decide +kernel
theorem dX11_remove_24 : decode cX11_remove 24 = .ok (.invokevirtual 83, 3) := by decide +kernel
theorem dX11_remove_27 : decode cX11_remove 27 = .ok (.aload_n 0, 1) := by decide +kernel
theorem dX11_remove_28 : decode cX11_remove 28 = .ok (.getfield 7, 3) := by decide +kernel
theorem dX11_remove_31 : decode cX11_remove 31 = .ok (.sipush 259, 3) := by decide +kernel
theorem dX11_remove_34 : decode cX11_remove 34 = .ok (.iload_n 1, 1) := by decide +kernel
theorem dX11_remove_35 : decode cX11_remove 35 = .ok (.iadd, 1) := by decide +kernel
theorem dX11_remove_36 : decode cX11_remove 36 = .ok (.iaload, 1) := by decide +kernel
theorem dX11_remove_37 : decode cX11_remove 37 = .ok (.istore_n 2, 1) := by decide +kernel
theorem dX11_remove_38 : decode cX11_remove 38 = .ok (.aload_n 0, 1) := by decide +kernel
theorem dX11_remove_39 : decode cX11_remove 39 = .ok (.iload_n 1, 1) := by decide +kernel
theorem dX11_remove_40 : decode cX11_remove 40 = .ok (.invokevirtual 139, 3) := by decide +kernel
theorem dX11_remove_43 : decode cX11_remove 43 = .ok (.iload_n 2, 1) := by decide +kernel
theorem dX11_remove_44 : decode cX11_remove 44 = .ok (.ireturn, 1) := by decide +kernel
theorem dX11_lock_0 : decode cX11_lock 0 = .ok (.aload_n 0, 1) := by decide +kernel
theorem dX11_lock_1 : decode cX11_lock 1 = .ok (.iload_n 1, 1) := by decide +kernel
theorem dX11_lock_2 : decode cX11_lock 2 = .ok (.invokevirtual 136, 3) := by decide +kernel
theorem dX11_lock_5 : decode cX11_lock 5 = .ok (.ifCond .ne 6, 3) := by decide +kernel
theorem dX11_lock_8 : decode cX11_lock 8 = .ok (.bipush (-2), 2) := by decide +kernel
theorem dX11_lock_10 : decode cX11_lock 10 = .ok (.ireturn, 1) := by decide +kernel
theorem dX11_lock_11 : decode cX11_lock 11 = .ok (.aload_n 0, 1) := by decide +kernel
theorem dX11_lock_12 : decode cX11_lock 12 = .ok (.iconst 0, 1) := by decide +kernel
theorem dX11_lock_13 : decode cX11_lock 13 = .ok (.invokevirtual 83, 3) := by decide +kernel
theorem dX11_lock_16 : decode cX11_lock 16 = .ok (.aload_n 0, 1) := by decide +kernel
theorem dX11_lock_17 : decode cX11_lock 17 = .ok (.getfield 7, 3) := by decide +kernel
theorem dX11_lock_20 : decode cX11_lock 20 = .ok (.sipush 275, 3) := by decide +kernel
theorem dX11_lock_23 : decode cX11_lock 23 = .ok (.iload_n 1, 1) := by decide +kernel
theorem dX11_lock_24 : decode cX11_lock 24 = .ok (.iadd, 1) := by decide +kernel
theorem dX11_lock_25 : decode cX11_lock 25 = .ok (.iaload, 1) := by decide +kernel
theorem dX11_lock_26 : decode cX11_lock 26 = .ok (.istore_n 3, 1) := by decide +kernel
theorem dX11_lock_27 : decode cX11_lock 27 = .ok (.aload_n 0, 1) := by decide +kernel
theorem dX11_lock_28 : decode cX11_lock 28 = .ok (.getfield 7, 3) := by decide +kernel
theorem dX11_lock_31 : decode cX11_lock 31 = .ok (.sipush 275, 3) := by decide +kernel
theorem dX11_lock_34 : decode cX11_lock 34 = .ok (.iload_n 1, 1) := by decide +kernel
theorem dX11_lock_35 : decode cX11_lock 35 = .ok (.iadd, 1) := by decide +kernel
theorem dX11_lock_36 : decode cX11_lock 36 = .ok (.iload_n 2, 1) := by decide +kernel
theorem dX11_lock_37 : decode cX11_lock 37 = .ok (.ifCond .eq 7, 3) := by decide +kernel
theorem dX11_lock_40 : decode cX11_lock 40 = .ok (.iconst 1, 1) := by decide +kernel
theorem dX11_lock_41 : decode cX11_lock 41 = .ok (.goto 4, 3) := by decide +kernel
theorem dX11_lock_44 : decode cX11_lock 44 = .ok (.iconst 0, 1) := by decide +kernel
theorem dX11_lock_45 : decode cX11_lock 45 = .ok (.iastore, 1) := by decide +kernel
theorem dX11_lock_46 : decode cX11_lock 46 = .ok (.iload_n 3, 1) := by decide +kernel
theorem dX11_lock_47 : decode cX11_lock 47 = .ok (.ireturn, 1) := by decide +kernel
theorem dX11_rearranges_0 : decode cX11_rearranges 0 = .ok (.iconst 0, 1) := by decide +kernel
theorem dX11_rearranges_1 : decode cX11_rearranges 1 = .ok (.istore_n 1, 1) := by decide +kernel
theorem dX11_rearranges_2 : decode cX11_rearranges 2 = .ok (.iconst 0, 1) := by decide +kernel
theorem dX11_rearranges_3 : decode cX11_rearranges 3 = .ok (.istore_n 2, 1) := by decide +kernel
theorem dX11_rearranges_4 : decode cX11_rearranges 4 = .ok (.iload_n 2, 1) := by decide +kernel
theorem dX11_rearranges_5 : decode cX11_rearranges 5 = .ok (.aload_n 0, 1) := by decide +kernel
theorem dX11_rearranges_6 : decode cX11_rearranges 6 = .ok (.getfield 7, 3) := by decide +kernel
theorem dX11_rearranges_9 : decode cX11_rearranges 9 = .ok (.sipush 258, 3) := by decide +kernel
theorem dX11_rearranges_12 : decode cX11_rearranges 12 = .ok (.iaload, 1) := by decide +kernel
theorem dX11_rearranges_13 : decode cX11_rearranges 13 = .ok (.if_icmp .ge 41, 3) := by decide +kernel
theorem dX11_rearranges_16 : decode cX11_rearranges 16 = .ok (.aload_n 0, 1) := by decide +kernel
theorem dX11_rearranges_17 : decode cX11_rearranges 17 = .ok (.getfield 28, 3) := by decide +kernel
theorem dX11_rearranges_20 : decode cX11_rearranges 20 = .ok (.iload_n 2, 1) := by decide +kernel
theorem dX11_rearranges_21 : decode cX11_rearranges 21 = .ok (.aload_n 0, 1) := by decide +kernel
theorem dX11_rearranges_22 : decode cX11_rearranges 22 = .ok (.getfield 7, 3) := by decide +kernel
theorem dX11_rearranges_25 : decode cX11_rearranges 25 = .ok (.sipush 259, 3) := by decide +kernel
theorem dX11_rearranges_28 : decode cX11_rearranges 28 = .ok (.iload_n 2, 1) := by decide +kernel
theorem dX11_rearranges_29 : decode cX11_rearranges 29 = .ok (.iadd, 1) := by decide +kernel
theorem dX11_rearranges_30 : decode cX11_rearranges 30 = .ok (.iaload, 1) := by decide +kernel
theorem dX11_rearranges_31 : decode cX11_rearranges 31 = .ok (.iastore, 1) := by decide +kernel
theorem dX11_rearranges_32 : decode cX11_rearranges 32 = .ok (.aload_n 0, 1) := by decide +kernel
theorem dX11_rearranges_33 : decode cX11_rearranges 33 = .ok (.getfield 31, 3) := by decide +kernel
theorem dX11_rearranges_36 : decode cX11_rearranges 36 = .ok (.iload_n 2, 1) := by decide +kernel
theorem dX11_rearranges_37 : decode cX11_rearranges 37 = .ok (.aload_n 0, 1) := by decide +kernel
theorem dX11_rearranges_38 : decode cX11_rearranges 38 = .ok (.getfield 7, 3) := by decide +kernel
theorem dX11_rearranges_41 : decode cX11_rearranges 41 = .ok (.sipush 275, 3) := by decide +kernel
theorem dX11_rearranges_44 : decode cX11_rearranges 44 = .ok (.iload_n 2, 1) := by decide +kernel
theorem dX11_rearranges_45 : decode cX11_rearranges 45 = .ok (.iadd, 1) := by decide +kernel
theorem dX11_rearranges_46 : decode cX11_rearranges 46 = .ok (.iaload, 1) := by decide +kernel
theorem dX11_rearranges_47 : decode cX11_rearranges 47 = .ok (.iastore, 1) := by decide +kernel
theorem dX11_rearranges_48 : decode cX11_rearranges 48 = .ok (.iinc 2 1, 3) := by decide +kernel
theorem dX11_rearranges_51 : decode cX11_rearranges 51 = .ok (.goto (-47), 3) := by decide +kernel
theorem dX11_rearranges_54 : decode cX11_rearranges 54 = .ok (.iconst 0, 1) := by decide +kernel
theorem dX11_rearranges_55 : decode cX11_rearranges 55 = .ok (.istore_n 2, 1) := by decide +kernel
theorem dX11_rearranges_56 : decode cX11_rearranges 56 = .ok (.iload_n 2, 1) := by decide +kernel
theorem dX11_rearranges_57 : decode cX11_rearranges 57 = .ok (.aload_n 0, 1) := by decide +kernel
theorem dX11_rearranges_58 : decode cX11_rearranges 58 = .ok (.getfield 7, 3) := by decide +kernel
theorem dX11_rearranges_61 : decode cX11_rearranges 61 = .ok (.sipush 258, 3) := by decide +kernel
theorem dX11_rearranges_64 : decode cX11_rearranges 64 = .ok (.iaload, 1) := by decide +kernel
theorem dX11_rearranges_65 : decode cX11_rearranges 65 = .ok (.if_icmp .ge 69, 3) := by decide +kernel
theorem dX11_rearranges_68 : decode cX11_rearranges 68 = .ok (.aload_n 0, 1) := by decide +kernel
theorem dX11_rearranges_69 : decode cX11_rearranges 69 = .ok (.getfield 7, 3) := by decide +kernel
theorem dX11_rearranges_72 : decode cX11_rearranges 72 = .ok (.sipush 259, 3) := by decide +kernel
theorem dX11_rearranges_75 : decode cX11_rearranges 75 = .ok (.iload_n 2, 1) := by decide +kernel
theorem dX11_rearranges_76 : decode cX11_rearranges 76 = .ok (.iadd, 1) := by decide +kernel
theorem dX11_rearranges_77 : decode cX11_rearranges 77 = .ok (.aload_n 0, 1) := by decide +kernel
theorem dX11_rearranges_78 : decode cX11_rearranges 78 = .ok (.getfield 28, 3) := by decide +kernel
theorem dX11_rearranges_81 : decode cX11_rearranges 81 = .ok (.aload_n 0, 1) := by decide +kernel
theorem dX11_rearranges_82 : decode cX11_rearranges 82 = .ok (.getfield 25, 3) := by decide +kernel
theorem dX11_rearranges_85 : decode cX11_rearranges 85 = .ok (.iload_n 2, 1) := by decide +kernel
theorem dX11_rearranges_86 : decode cX11_rearranges 86 = .ok (.iaload, 1) := by decide +kernel
theorem dX11_rearranges_87 : decode cX11_rearranges 87 = .ok (.iaload, 1) := by decide +kernel
theorem dX11_rearranges_88 : decode cX11_rearranges 88 = .ok (.iastore, 1) := by decide +kernel
theorem dX11_rearranges_89 : decode cX11_rearranges 89 = .ok (.aload_n 0, 1) := by decide +kernel
theorem dX11_rearranges_90 : decode cX11_rearranges 90 = .ok (.getfield 7, 3) := by decide +kernel
theorem dX11_rearranges_93 : decode cX11_rearranges 93 = .ok (.sipush 275, 3) := by decide +kernel
theorem dX11_rearranges_96 : decode cX11_rearranges 96 = .ok (.iload_n 2, 1) := by decide +kernel
theorem dX11_rearranges_97 : decode cX11_rearranges 97 = .ok (.iadd, 1) := by decide +kernel
theorem dX11_rearranges_98 : decode cX11_rearranges 98 = .ok (.aload_n 0, 1) := by decide +kernel
theorem dX11_rearranges_99 : decode cX11_rearranges 99 = .ok (.getfield 31, 3) := by decide +kernel
theorem dX11_rearranges_102 : decode cX11_rearranges 102 = .ok (.aload_n 0, 1) := by decide +kernel
theorem dX11_rearranges_103 : decode cX11_rearranges 103 = .ok (.getfield 25, 3) := by decide +kernel
theorem dX11_rearranges_106 : decode cX11_rearranges 106 = .ok (.iload_n 2, 1) := by decide +kernel
theorem dX11_rearranges_107 : decode cX11_rearranges 107 = .ok (.iaload, 1) := by decide +kernel
theorem dX11_rearranges_108 : decode cX11_rearranges 108 = .ok (.iaload, 1) := by decide +kernel
theorem dX11_rearranges_109 : decode cX11_rearranges 109 = .ok (.iastore, 1) := by decide +kernel
theorem dX11_rearranges_110 : decode cX11_rearranges 110 = .ok (.iload_n 1, 1) := by decide +kernel
theorem dX11_rearranges_111 : decode cX11_rearranges 111 = .ok (.aload_n 0, 1) := by decide +kernel
theorem dX11_rearranges_112 : decode cX11_rearranges 112 = .ok (.getfield 25, 3) := by decide +kernel
theorem dX11_rearranges_115 : decode cX11_rearranges 115 = .ok (.iload_n 2, 1) := by decide +kernel
theorem dX11_rearranges_116 : decode cX11_rearranges 116 = .ok (.iaload, 1) := by decide +kernel
theorem dX11_rearranges_117 : decode cX11_rearranges 117 = .ok (.iload_n 2, 1) := by decide +kernel
theorem dX11_rearranges_118 : decode cX11_rearranges 118 = .ok (.if_icmp .ne 7, 3) := by decide +kernel
theorem dX11_rearranges_121 : decode cX11_rearranges 121 = .ok (.iconst 0, 1) := by decide +kernel
theorem dX11_rearranges_122 : decode cX11_rearranges 122 = .ok (.goto 4, 3) := by decide +kernel
theorem dX11_rearranges_125 : decode cX11_rearranges 125 = .ok (.iconst 1, 1) := by decide +kernel
theorem dX11_rearranges_126 : decode cX11_rearranges 126 = .ok (.iadd, 1) := by decide +kernel
theorem dX11_rearranges_127 : decode cX11_rearranges 127 = .ok (.istore_n 1, 1) := by decide +kernel
theorem dX11_rearranges_128 : decode cX11_rearranges 128 = .ok (.iinc 2 1, 3) := by decide +kernel
theorem dX11_rearranges_131 : decode cX11_rearranges 131 = .ok (.goto (-75), 3) := by decide +kernel
theorem dX11_rearranges_134 : decode cX11_rearranges 134 = .ok (.iconst 0, 1) := by decide +kernel
theorem dX11_rearranges_135 : decode cX11_rearranges 135 = .ok (.istore_n 2, 1) := by decide +kernel
theorem dX11_rearranges_136 : decode cX11_rearranges 136 = .ok (.iload_n 2, 1) := by decide +kernel
theorem dX11_rearranges_137 : decode cX11_rearranges 137 = .ok (.aload_n 0, 1) := by decide +kernel
theorem dX11_rearranges_138 : decode cX11_rearranges 138 = .ok (.invokevirtual 61, 3) := by decide +kernel
theorem dX11_rearranges_141 : decode cX11_rearranges 141 = .ok (.if_icmp .ge 90, 3) := by decide +kernel
theorem dX11_rearranges_144 : decode cX11_rearranges 144 = .ok (.aload_n 0, 1) := by decide +kernel
theorem dX11_rearranges_145 : decode cX11_rearranges 145 = .ok (.getfield 7, 3) := by decide +kernel
theorem dX11_rearranges_148 : decode cX11_rearranges 148 = .ok (.sipush 292, 3) := by decide +kernel
theorem dX11_rearranges_151 : decode cX11_rearranges 151 = .ok (.iaload, 1) := by decide +kernel
theorem dX11_rearranges_152 : decode cX11_rearranges 152 = .ok (.iconst 1, 1) := by decide +kernel
theorem dX11_rearranges_153 : decode cX11_rearranges 153 = .ok (.if_icmp .ne 78, 3) := by decide +kernel
theorem dX11_rearranges_156 : decode cX11_rearranges 156 = .ok (.aload_n 0, 1) := by decide +kernel
theorem dX11_rearranges_157 : decode cX11_rearranges 157 = .ok (.getfield 7, 3) := by decide +kernel
theorem dX11_rearranges_160 : decode cX11_rearranges 160 = .ok (.sipush 293, 3) := by decide +kernel
theorem dX11_rearranges_163 : decode cX11_rearranges 163 = .ok (.iload_n 2, 1) := by decide +kernel
theorem dX11_rearranges_164 : decode cX11_rearranges 164 = .ok (.iadd, 1) := by decide +kernel
theorem dX11_rearranges_165 : decode cX11_rearranges 165 = .ok (.iaload, 1) := by decide +kernel
theorem dX11_rearranges_166 : decode cX11_rearranges 166 = .ok (.istore_n 3, 1) := by decide +kernel
theorem dX11_rearranges_167 : decode cX11_rearranges 167 = .ok (.iconst 0, 1) := by decide +kernel
theorem dX11_rearranges_168 : decode cX11_rearranges 168 = .ok (.istore 4, 2) := by decide +kernel
theorem dX11_rearranges_170 : decode cX11_rearranges 170 = .ok (.iload 4, 2) := by decide +kernel
theorem dX11_rearranges_172 : decode cX11_rearranges 172 = .ok (.aload_n 0, 1) := by decide +kernel
theorem dX11_rearranges_173 : decode cX11_rearranges 173 = .ok (.getfield 7, 3) := by decide +kernel
theorem dX11_rearranges_176 : decode cX11_rearranges 176 = .ok (.sipush 258, 3) := by decide +kernel
theorem dX11_rearranges_179 : decode cX11_rearranges 179 = .ok (.iaload, 1) := by decide +kernel
theorem dX11_rearranges_180 : decode cX11_rearranges 180 = .ok (.if_icmp .ge 45, 3) := by decide +kernel
theorem dX11_rearranges_183 : decode cX11_rearranges 183 = .ok (.aload_n 0, 1) := by decide +kernel
theorem dX11_rearranges_184 : decode cX11_rearranges 184 = .ok (.getfield 7, 3) := by decide +kernel
theorem dX11_rearranges_187 : decode cX11_rearranges 187 = .ok (.sipush 293, 3) := by decide +kernel
theorem dX11_rearranges_190 : decode cX11_rearranges 190 = .ok (.iload_n 2, 1) := by decide +kernel
theorem dX11_rearranges_191 : decode cX11_rearranges 191 = .ok (.iadd, 1) := by decide +kernel
theorem dX11_rearranges_192 : decode cX11_rearranges 192 = .ok (.aload_n 0, 1) := by decide +kernel
theorem dX11_rearranges_193 : decode cX11_rearranges 193 = .ok (.getfield 25, 3) := by decide +kernel
theorem dX11_rearranges_196 : decode cX11_rearranges 196 = .ok (.iload 4, 2) := by decide +kernel
theorem dX11_rearranges_198 : decode cX11_rearranges 198 = .ok (.iaload, 1) := by decide +kernel
theorem dX11_rearranges_199 : decode cX11_rearranges 199 = .ok (.iload_n 3, 1) := by decide +kernel
theorem dX11_rearranges_200 : decode cX11_rearranges 200 = .ok (.if_icmp .ne 8, 3) := by decide +kernel
theorem dX11_rearranges_203 : decode cX11_rearranges 203 = .ok (.iload 4, 2) := by decide +kernel
theorem dX11_rearranges_205 : decode cX11_rearranges 205 = .ok (.goto 13, 3) := by decide +kernel
theorem dX11_rearranges_208 : decode cX11_rearranges 208 = .ok (.aload_n 0, 1) := by decide +kernel
theorem dX11_rearranges_209 : decode cX11_rearranges 209 = .ok (.getfield 7, 3) := by decide +kernel
theorem dX11_rearranges_212 : decode cX11_rearranges 212 = .ok (.sipush 293, 3) := by decide +kernel
theorem dX11_rearranges_215 : decode cX11_rearranges 215 = .ok (.iload_n 2, 1) := by decide +kernel
theorem dX11_rearranges_216 : decode cX11_rearranges 216 = .ok (.iadd, 1) := by decide +kernel
theorem dX11_rearranges_217 : decode cX11_rearranges 217 = .ok (.iaload, 1) := by decide +kernel
theorem dX11_rearranges_218 : decode cX11_rearranges 218 = .ok (.iastore, 1) := by decide +kernel
theorem dX11_rearranges_219 : decode cX11_rearranges 219 = .ok (.iinc 4 1, 3) := by decide +kernel
theorem dX11_rearranges_222 : decode cX11_rearranges 222 = .ok (.goto (-52), 3) := by decide +kernel
theorem dX11_rearranges_225 : decode cX11_rearranges 225 = .ok (.iinc 2 1, 3) := by decide +kernel
theorem dX11_rearranges_228 : decode cX11_rearranges 228 = .ok (.goto (-92), 3) := by decide +kernel
theorem dX11_rearranges_231 : decode cX11_rearranges 231 = .ok (.iload_n 1, 1) := by decide +kernel
theorem dX11_rearranges_232 : decode cX11_rearranges 232 = .ok (.ireturn, 1) := by decide +kernel
theorem dX11_swap_0 : decode cX11_swap 0 = .ok (.aload_n 0, 1) := by decide +kernel
theorem dX11_swap_1 : decode cX11_swap 1 = .ok (.iload_n 1, 1) := by decide +kernel
theorem dX11_swap_2 : decode cX11_swap 2 = .ok (.invokevirtual 136, 3) := by decide +kernel
theorem dX11_swap_5 : decode cX11_swap 5 = .ok (.ifCond .eq 11, 3) := by decide +kernel
theorem dX11_swap_8 : decode cX11_swap 8 = .ok (.aload_n 0, 1) := by decide +kernel
theorem dX11_swap_9 : decode cX11_swap 9 = .ok (.iload_n 2, 1) := by decide +kernel
theorem dX11_swap_10 : decode cX11_swap 10 = .ok (.invokevirtual 136, 3) := by decide +kernel
theorem dX11_swap_13 : decode cX11_swap 13 = .ok (.ifCond .ne 6, 3) := by decide +kernel
theorem dX11_swap_16 : decode cX11_swap 16 = .ok (.bipush (-2), 2) := by decide +kernel
theorem dX11_swap_18 : decode cX11_swap 18 = .ok (.ireturn, 1) := by decide +kernel
theorem dX11_swap_19 : decode cX11_swap 19 = .ok (.aload_n 0, 1) := by decide +kernel
theorem dX11_swap_20 : decode cX11_swap 20 = .ok (.iconst 0, 1) := by decide +kernel
theorem dX11_swap_21 : decode cX11_swap 21 = .ok (.invokevirtual 83, 3) := by decide +kernel
theorem dX11_swap_24 : decode cX11_swap 24 = .ok (.aload_n 0, 1) := by decide +kernel
theorem dX11_swap_25 : decode cX11_swap 25 = .ok (.getfield 7, 3) := by decide +kernel
theorem dX11_swap_28 : decode cX11_swap 28 = .ok (.sipush 259, 3) := by decide +kernel
theorem dX11_swap_31 : decode cX11_swap 31 = .ok (.iload_n 1, 1) := by decide +kernel
theorem dX11_swap_32 : decode cX11_swap 32 = .ok (.iadd, 1) := by decide +kernel
theorem dX11_swap_33 : decode cX11_swap 33 = .ok (.iaload, 1) := by decide +kernel
theorem dX11_swap_34 : decode cX11_swap 34 = .ok (.istore_n 3, 1) := by decide +kernel
theorem dX11_swap_35 : decode cX11_swap 35 = .ok (.iconst 0, 1) := by decide +kernel
theorem dX11_swap_36 : decode cX11_swap 36 = .ok (.istore 4, 2) := by decide +kernel
theorem dX11_swap_38 : decode cX11_swap 38 = .ok (.iload 4, 2) := by decide +kernel
theorem dX11_swap_40 : decode cX11_swap 40 = .ok (.bipush 16, 2) := by decide +kernel
theorem dX11_swap_42 : decode cX11_swap 42 = .ok (.if_icmp .ge 38, 3) := by decide +kernel
theorem dX11_swap_45 : decode cX11_swap 45 = .ok (.aload_n 0, 1) := by decide +kernel
theorem dX11_swap_46 : decode cX11_swap 46 = .ok (.getfield 25, 3) := by decide +kernel
theorem dX11_swap_49 : decode cX11_swap 49 = .ok (.iload 4, 2) := by decide +kernel
theorem dX11_swap_51 : decode cX11_swap 51 = .ok (.iload 4, 2) := by decide +kernel
theorem dX11_swap_53 : decode cX11_swap 53 = .ok (.iload_n 1, 1) := by decide +kernel
theorem dX11_swap_54 : decode cX11_swap 54 = .ok (.if_icmp .ne 7, 3) := by decide +kernel
theorem dX11_swap_57 : decode cX11_swap 57 = .ok (.iload_n 2, 1) := by decide +kernel
theorem dX11_swap_58 : decode cX11_swap 58 = .ok (.goto 15, 3) := by decide +kernel
theorem dX11_swap_61 : decode cX11_swap 61 = .ok (.iload 4, 2) := by decide +kernel
theorem dX11_swap_63 : decode cX11_swap 63 = .ok (.iload_n 2, 1) := by decide +kernel
theorem dX11_swap_64 : decode cX11_swap 64 = .ok (.if_icmp .ne 7, 3) := by decide +kernel
theorem dX11_swap_67 : decode cX11_swap 67 = .ok (.iload_n 1, 1) := by decide +kernel
theorem dX11_swap_68 : decode cX11_swap 68 = .ok (.goto 5, 3) := by decide +kernel
theorem dX11_swap_71 : decode cX11_swap 71 = .ok (.iload 4, 2) := by decide +kernel
theorem dX11_swap_73 : decode cX11_swap 73 = .ok (.iastore, 1) := by decide +kernel
theorem dX11_swap_74 : decode cX11_swap 74 = .ok (.iinc 4 1, 3) := by decide +kernel
theorem dX11_swap_77 : decode cX11_swap 77 = .ok (.goto (-39), 3) := by decide +kernel
theorem dX11_swap_80 : decode cX11_swap 80 = .ok (.aload_n 0, 1) := by decide +kernel
theorem dX11_swap_81 : decode cX11_swap 81 = .ok (.invokevirtual 143, 3) := by decide +kernel
theorem dX11_swap_84 : decode cX11_swap 84 = .ok (.istore 4, 2) := by decide +kernel
theorem dX11_swap_86 : decode cX11_swap 86 = .ok (.iload 4, 2) := by decide +kernel
theorem dX11_swap_88 : decode cX11_swap 88 = .ok (.ifCond .ge 8, 3) := by decide +kernel
theorem dX11_swap_91 : decode cX11_swap 91 = .ok (.bipush (-2), 2) := by decide +kernel
theorem dX11_swap_93 : decode cX11_swap 93 = .ok (.goto 4, 3) := by decide +kernel
theorem dX11_swap_96 : decode cX11_swap 96 = .ok (.iload_n 3, 1) := by decide +kernel
theorem dX11_swap_97 : decode cX11_swap 97 = .ok (.ireturn, 1) := by decide +kernel
theorem dX11_setMetric_0 : decode cX11_setMetric 0 = .ok (.iload_n 1, 1) := by decide +kernel
theorem dX11_setMetric_1 : decode cX11_setMetric 1 = .ok (.iconst 0, 1) := by decide +kernel
theorem dX11_setMetric_2 : decode cX11_setMetric 2 = .ok (.iconst 1, 1) := by decide +kernel
theorem dX11_setMetric_3 : decode cX11_setMetric 3 = .ok (.invokestatic 57, 3) := by decide +kernel
theorem dX11_setMetric_6 : decode cX11_setMetric 6 = .ok (.ifCond .ne 6, 3) := by decide +kernel
theorem dX11_setMetric_9 : decode cX11_setMetric 9 = .ok (.bipush (-2), 2) := by decide +kernel
theorem dX11_setMetric_11 : decode cX11_setMetric 11 = .ok (.ireturn, 1) := by decide +kernel
theorem dX11_setMetric_12 : decode cX11_setMetric 12 = .ok (.aload_n 0, 1) := by decide +kernel
theorem dX11_setMetric_13 : decode cX11_setMetric 13 = .ok (.iconst 0, 1) := by decide +kernel
theorem dX11_setMetric_14 : decode cX11_setMetric 14 = .ok (.invokevirtual 83, 3) := by decide +kernel
theorem dX11_setMetric_17 : decode cX11_setMetric 17 = .ok (.aload_n 0, 1) := by decide +kernel
theorem dX11_setMetric_18 : decode cX11_setMetric 18 = .ok (.getfield 7, 3) := by decide +kernel
theorem dX11_setMetric_21 : decode cX11_setMetric 21 = .ok (.sipush 291, 3) := by decide +kernel
theorem dX11_setMetric_24 : decode cX11_setMetric 24 = .ok (.iaload, 1) := by decide +kernel
theorem dX11_setMetric_25 : decode cX11_setMetric 25 = .ok (.istore_n 2, 1) := by decide +kernel
theorem dX11_setMetric_26 : decode cX11_setMetric 26 = .ok (.aload_n 0, 1) := by decide +kernel
theorem dX11_setMetric_27 : decode cX11_setMetric 27 = .ok (.getfield 7, 3) := by decide +kernel
theorem dX11_setMetric_30 : decode cX11_setMetric 30 = .ok (.sipush 291, 3) := by decide +kernel
theorem dX11_setMetric_33 : decode cX11_setMetric 33 = .ok (.iload_n 1, 1) := by decide +kernel
theorem dX11_setMetric_34 : decode cX11_setMetric 34 = .ok (.iastore, 1) := by decide +kernel
theorem dX11_setMetric_35 : decode cX11_setMetric 35 = .ok (.iload_n 2, 1) := by decide +kernel
theorem dX11_setMetric_36 : decode cX11_setMetric 36 = .ok (.ireturn, 1) := by decide +kernel
theorem dX11_counts_0 : decode cX11_counts 0 = .ok (.iconst 0, 1) := by decide +kernel
theorem dX11_counts_1 : decode cX11_counts 1 = .ok (.istore_n 1, 1) := by decide +kernel
theorem dX11_counts_2 : decode cX11_counts 2 = .ok (.iload_n 1, 1) := by decide +kernel
theorem dX11_counts_3 : decode cX11_counts 3 = .ok (.bipush 16, 2) := by decide +kernel
theorem dX11_counts_5 : decode cX11_counts 5 = .ok (.if_icmp .ge 16, 3) := by decide +kernel
theorem dX11_counts_8 : decode cX11_counts 8 = .ok (.aload_n 0, 1) := by decide +kernel
theorem dX11_counts_9 : decode cX11_counts 9 = .ok (.getfield 34, 3) := by decide +kernel
theorem dX11_counts_12 : decode cX11_counts 12 = .ok (.iload_n 1, 1) := by decide +kernel
theorem dX11_counts_13 : decode cX11_counts 13 = .ok (.iconst 0, 1) := by decide +kernel
theorem dX11_counts_14 : decode cX11_counts 14 = .ok (.iastore, 1) := by decide +kernel
theorem dX11_counts_15 : decode cX11_counts 15 = .ok (.iinc 1 1, 3) := by decide +kernel
theorem dX11_counts_18 : decode cX11_counts 18 = .ok (.goto (-16), 3) := by decide +kernel
theorem dX11_counts_21 : decode cX11_counts 21 = .ok (.iconst 0, 1) := by decide +kernel
theorem dX11_counts_22 : decode cX11_counts 22 = .ok (.istore_n 1, 1) := by decide +kernel
theorem dX11_counts_23 : decode cX11_counts 23 = .ok (.iload_n 1, 1) := by decide +kernel
theorem dX11_counts_24 : decode cX11_counts 24 = .ok (.aload_n 0, 1) := by decide +kernel
theorem dX11_counts_25 : decode cX11_counts 25 = .ok (.invokevirtual 61, 3) := by decide +kernel
theorem dX11_counts_28 : decode cX11_counts 28 = .ok (.if_icmp .ge 49, 3) := by decide +kernel
theorem dX11_counts_31 : decode cX11_counts 31 = .ok (.aload_n 0, 1) := by decide +kernel
theorem dX11_counts_32 : decode cX11_counts 32 = .ok (.getfield 7, 3) := by decide +kernel
theorem dX11_counts_35 : decode cX11_counts 35 = .ok (.sipush 258, 3) := by decide +kernel
theorem dX11_counts_38 : decode cX11_counts 38 = .ok (.iaload, 1) := by decide +kernel
theorem dX11_counts_39 : decode cX11_counts 39 = .ok (.ifCond .le 38, 3) := by decide +kernel
theorem dX11_counts_42 : decode cX11_counts 42 = .ok (.aload_n 0, 1) := by decide +kernel
theorem dX11_counts_43 : decode cX11_counts 43 = .ok (.iload_n 1, 1) := by decide +kernel
theorem dX11_counts_44 : decode cX11_counts 44 = .ok (.invokevirtual 65, 3) := by decide +kernel
theorem dX11_counts_47 : decode cX11_counts 47 = .ok (.ifCond .eq 24, 3) := by decide +kernel
theorem dX11_counts_50 : decode cX11_counts 50 = .ok (.aload_n 0, 1) := by decide +kernel
theorem dX11_counts_51 : decode cX11_counts 51 = .ok (.getfield 34, 3) := by decide +kernel
theorem dX11_counts_54 : decode cX11_counts 54 = .ok (.aload_n 0, 1) := by decide +kernel
theorem dX11_counts_55 : decode cX11_counts 55 = .ok (.aload_n 0, 1) := by decide +kernel
theorem dX11_counts_56 : decode cX11_counts 56 = .ok (.getfield 7, 3) := by decide +kernel
theorem dX11_counts_59 : decode cX11_counts 59 = .ok (.iconst 2, 1) := by decide +kernel
theorem dX11_counts_60 : decode cX11_counts 60 = .ok (.iload_n 1, 1) := by decide +kernel
theorem dX11_counts_61 : decode cX11_counts 61 = .ok (.iadd, 1) := by decide +kernel
theorem dX11_counts_62 : decode cX11_counts 62 = .ok (.iaload, 1) := by decide +kernel
theorem dX11_counts_63 : decode cX11_counts 63 = .ok (.invokevirtual 146, 3) := by decide +kernel
theorem dX11_counts_66 : decode cX11_counts 66 = .ok (.dup2, 1) := by decide +kernel
theorem dX11_counts_67 : decode cX11_counts 67 = .ok (.iaload, 1) := by decide +kernel
theorem dX11_counts_68 : decode cX11_counts 68 = .ok (.iconst 1, 1) := by decide +kernel
theorem dX11_counts_69 : decode cX11_counts 69 = .ok (.iadd, 1) := by decide +kernel
theorem dX11_counts_70 : decode cX11_counts 70 = .ok (.iastore, 1) := by decide +kernel
theorem dX11_counts_71 : decode cX11_counts 71 = .ok (.iinc 1 1, 3) := by decide +kernel
theorem dX11_counts_74 : decode cX11_counts 74 = .ok (.goto (-51), 3) := by decide +kernel
theorem dX11_counts_77 : decode cX11_counts 77 = .ok (.return_, 1) := by decide +kernel
theorem dX11_indexed_0 : decode cX11_indexed 0 = .ok (.iconst 0, 1) := by decide +kernel
theorem dX11_indexed_1 : decode cX11_indexed 1 = .ok (.istore_n 2, 1) := by decide +kernel
theorem dX11_indexed_2 : decode cX11_indexed 2 = .ok (.iconst 0, 1) := by decide +kernel
theorem dX11_indexed_3 : decode cX11_indexed 3 = .ok (.istore_n 3, 1) := by decide +kernel
theorem dX11_indexed_4 : decode cX11_indexed 4 = .ok (.iload_n 3, 1) := by decide +kernel
theorem dX11_indexed_5 : decode cX11_indexed 5 = .ok (.aload_n 0, 1) := by decide +kernel
theorem dX11_indexed_6 : decode cX11_indexed 6 = .ok (.invokevirtual 61, 3) := by decide +kernel
theorem dX11_indexed_9 : decode cX11_indexed 9 = .ok (.if_icmp .ge 43, 3) := by decide +kernel
theorem dX11_indexed_12 : decode cX11_indexed 12 = .ok (.aload_n 0, 1) := by decide +kernel
theorem dX11_indexed_13 : decode cX11_indexed 13 = .ok (.getfield 7, 3) := by decide +kernel
theorem dX11_indexed_16 : decode cX11_indexed 16 = .ok (.sipush 292, 3) := by decide +kernel
theorem dX11_indexed_19 : decode cX11_indexed 19 = .ok (.iaload, 1) := by decide +kernel
theorem dX11_indexed_20 : decode cX11_indexed 20 = .ok (.iconst 1, 1) := by decide +kernel
theorem dX11_indexed_21 : decode cX11_indexed 21 = .ok (.if_icmp .ne 31, 3) := by decide +kernel
theorem dX11_indexed_24 : decode cX11_indexed 24 = .ok (.iload_n 2, 1) := by decide +kernel
theorem dX11_indexed_25 : decode cX11_indexed 25 = .ok (.aload_n 0, 1) := by decide +kernel
theorem dX11_indexed_26 : decode cX11_indexed 26 = .ok (.getfield 7, 3) := by decide +kernel
theorem dX11_indexed_29 : decode cX11_indexed 29 = .ok (.sipush 293, 3) := by decide +kernel
theorem dX11_indexed_32 : decode cX11_indexed 32 = .ok (.iload_n 3, 1) := by decide +kernel
theorem dX11_indexed_33 : decode cX11_indexed 33 = .ok (.iadd, 1) := by decide +kernel
theorem dX11_indexed_34 : decode cX11_indexed 34 = .ok (.iaload, 1) := by decide +kernel
theorem dX11_indexed_35 : decode cX11_indexed 35 = .ok (.iload_n 1, 1) := by decide +kernel
theorem dX11_indexed_36 : decode cX11_indexed 36 = .ok (.if_icmp .ne 7, 3) := by decide +kernel
theorem dX11_indexed_39 : decode cX11_indexed 39 = .ok (.iconst 1, 1) := by decide +kernel
theorem dX11_indexed_40 : decode cX11_indexed 40 = .ok (.goto 4, 3) := by decide +kernel
theorem dX11_indexed_43 : decode cX11_indexed 43 = .ok (.iconst 0, 1) := by decide +kernel
theorem dX11_indexed_44 : decode cX11_indexed 44 = .ok (.iadd, 1) := by decide +kernel
theorem dX11_indexed_45 : decode cX11_indexed 45 = .ok (.istore_n 2, 1) := by decide +kernel
theorem dX11_indexed_46 : decode cX11_indexed 46 = .ok (.iinc 3 1, 3) := by decide +kernel
theorem dX11_indexed_49 : decode cX11_indexed 49 = .ok (.goto (-45), 3) := by decide +kernel
theorem dX11_indexed_52 : decode cX11_indexed 52 = .ok (.iload_n 2, 1) := by decide +kernel
theorem dX11_indexed_53 : decode cX11_indexed 53 = .ok (.ireturn, 1) := by decide +kernel
theorem dX11_entry_0 : decode cX11_entry 0 = .ok (.aload_n 0, 1) := by decide +kernel
theorem dX11_entry_1 : decode cX11_entry 1 = .ok (.iload_n 1, 1) := by decide +kernel
theorem dX11_entry_2 : decode cX11_entry 2 = .ok (.invokevirtual 136, 3) := by decide +kernel
theorem dX11_entry_5 : decode cX11_entry 5 = .ok (.ifCond .eq 12, 3) := by decide +kernel
theorem dX11_entry_8 : decode cX11_entry 8 = .ok (.iload_n 2, 1) := by decide +kernel
theorem dX11_entry_9 : decode cX11_entry 9 = .ok (.iconst 0, 1) := by decide +kernel
theorem dX11_entry_10 : decode cX11_entry 10 = .ok (.iconst 3, 1) := by decide +kernel
theorem dX11_entry_11 : decode cX11_entry 11 = .ok (.invokestatic 57, 3) := by decide +kernel
theorem dX11_entry_14 : decode cX11_entry 14 = .ok (.ifCond .ne 6, 3) := by decide +kernel
theorem dX11_entry_17 : decode cX11_entry 17 = .ok (.bipush (-2), 2) := by decide +kernel
theorem dX11_entry_19 : decode cX11_entry 19 = .ok (.ireturn, 1) := by decide +kernel
theorem dX11_entry_20 : decode cX11_entry 20 = .ok (.iload_n 2, 1) := by decide +kernel
theorem dX11_entry_21 : decode cX11_entry 21 = .ok (.tableswitch 60 0 2 #[27, 38, 49], 27) := by decide +kernel
theorem dX11_entry_48 : decode cX11_entry 48 = .ok (.aload_n 0, 1) := by decide +kernel
theorem dX11_entry_49 : decode cX11_entry 49 = .ok (.getfield 7, 3) := by decide +kernel
theorem dX11_entry_52 : decode cX11_entry 52 = .ok (.sipush 259, 3) := by decide +kernel
theorem dX11_entry_55 : decode cX11_entry 55 = .ok (.iload_n 1, 1) := by decide +kernel
theorem dX11_entry_56 : decode cX11_entry 56 = .ok (.iadd, 1) := by decide +kernel
theorem dX11_entry_57 : decode cX11_entry 57 = .ok (.iaload, 1) := by decide +kernel
theorem dX11_entry_58 : decode cX11_entry 58 = .ok (.ireturn, 1) := by decide +kernel
theorem dX11_entry_59 : decode cX11_entry 59 = .ok (.aload_n 0, 1) := by decide +kernel
theorem dX11_entry_60 : decode cX11_entry 60 = .ok (.getfield 7, 3) := by decide +kernel
theorem dX11_entry_63 : decode cX11_entry 63 = .ok (.sipush 275, 3) := by decide +kernel
theorem dX11_entry_66 : decode cX11_entry 66 = .ok (.iload_n 1, 1) := by decide +kernel
theorem dX11_entry_67 : decode cX11_entry 67 = .ok (.iadd, 1) := by decide +kernel
theorem dX11_entry_68 : decode cX11_entry 68 = .ok (.iaload, 1) := by decide +kernel
theorem dX11_entry_69 : decode cX11_entry 69 = .ok (.ireturn, 1) := by decide +kernel
theorem dX11_entry_70 : decode cX11_entry 70 = .ok (.aload_n 0, 1) := by decide +kernel
theorem dX11_entry_71 : decode cX11_entry 71 = .ok (.invokevirtual 149, 3) := by decide +kernel
theorem dX11_entry_74 : decode cX11_entry 74 = .ok (.aload_n 0, 1) := by decide +kernel
theorem dX11_entry_75 : decode cX11_entry 75 = .ok (.getfield 34, 3) := by decide +kernel
theorem dX11_entry_78 : decode cX11_entry 78 = .ok (.iload_n 1, 1) := by decide +kernel
theorem dX11_entry_79 : decode cX11_entry 79 = .ok (.iaload, 1) := by decide +kernel
theorem dX11_entry_80 : decode cX11_entry 80 = .ok (.ireturn, 1) := by decide +kernel
theorem dX11_entry_81 : decode cX11_entry 81 = .ok (.aload_n 0, 1) := by decide +kernel
theorem dX11_entry_82 : decode cX11_entry 82 = .ok (.iload_n 1, 1) := by decide +kernel
theorem dX11_entry_83 : decode cX11_entry 83 = .ok (.invokevirtual 152, 3) := by decide +kernel
theorem dX11_entry_86 : decode cX11_entry 86 = .ok (.ireturn, 1) := by decide +kernel
theorem dX11_nearest_0 : decode cX11_nearest 0 = .ok (.iload_n 1, 1) := by decide +kernel
theorem dX11_nearest_1 : decode cX11_nearest 1 = .ok (.invokestatic 91, 3) := by decide +kernel
theorem dX11_nearest_4 : decode cX11_nearest 4 = .ok (.ifCond .eq 11, 3) := by decide +kernel
theorem dX11_nearest_7 : decode cX11_nearest 7 = .ok (.aload_n 0, 1) := by decide +kernel
theorem dX11_nearest_8 : decode cX11_nearest 8 = .ok (.iload_n 1, 1) := by decide +kernel
theorem dX11_nearest_9 : decode cX11_nearest 9 = .ok (.invokevirtual 146, 3) := by decide +kernel
theorem dX11_nearest_12 : decode cX11_nearest 12 = .ok (.goto 5, 3) := by decide +kernel
theorem dX11_nearest_15 : decode cX11_nearest 15 = .ok (.bipush (-2), 2) := by decide +kernel
theorem dX11_nearest_17 : decode cX11_nearest 17 = .ok (.ireturn, 1) := by decide +kernel
theorem dX11_type_0 : decode cX11_type 0 = .ok (.iload_n 1, 1) := by decide +kernel
theorem dX11_type_1 : decode cX11_type 1 = .ok (.iconst 0, 1) := by decide +kernel
theorem dX11_type_2 : decode cX11_type 2 = .ok (.bipush 127, 2) := by decide +kernel
theorem dX11_type_4 : decode cX11_type 4 = .ok (.invokestatic 57, 3) := by decide +kernel
theorem dX11_type_7 : decode cX11_type 7 = .ok (.ifCond .ne 6, 3) := by decide +kernel
theorem dX11_type_10 : decode cX11_type 10 = .ok (.bipush (-2), 2) := by decide +kernel
theorem dX11_type_12 : decode cX11_type 12 = .ok (.ireturn, 1) := by decide +kernel
theorem dX11_type_13 : decode cX11_type 13 = .ok (.aload_n 0, 1) := by decide +kernel
theorem dX11_type_14 : decode cX11_type 14 = .ok (.getfield 155, 3) := by decide +kernel
theorem dX11_type_17 : decode cX11_type 17 = .ok (.sipush 140, 3) := by decide +kernel
theorem dX11_type_20 : decode cX11_type 20 = .ok (.if_icmp .ne 6, 3) := by decide +kernel
theorem dX11_type_23 : decode cX11_type 23 = .ok (.bipush (-4), 2) := by decide +kernel
theorem dX11_type_25 : decode cX11_type 25 = .ok (.ireturn, 1) := by decide +kernel
theorem dX11_type_26 : decode cX11_type 26 = .ok (.aload_n 0, 1) := by decide +kernel
theorem dX11_type_27 : decode cX11_type 27 = .ok (.getfield 16, 3) := by decide +kernel
theorem dX11_type_30 : decode cX11_type 30 = .ok (.aload_n 0, 1) := by decide +kernel
theorem dX11_type_31 : decode cX11_type 31 = .ok (.getfield 155, 3) := by decide +kernel
theorem dX11_type_34 : decode cX11_type 34 = .ok (.iload_n 1, 1) := by decide +kernel
theorem dX11_type_35 : decode cX11_type 35 = .ok (.iastore, 1) := by decide +kernel
theorem dX11_type_36 : decode cX11_type 36 = .ok (.aload_n 0, 1) := by decide +kernel
theorem dX11_type_37 : decode cX11_type 37 = .ok (.dup, 1) := by decide +kernel
theorem dX11_type_38 : decode cX11_type 38 = .ok (.getfield 155, 3) := by decide +kernel
theorem dX11_type_41 : decode cX11_type 41 = .ok (.iconst 1, 1) := by decide +kernel
theorem dX11_type_42 : decode cX11_type 42 = .ok (.iadd, 1) := by decide +kernel
theorem dX11_type_43 : decode cX11_type 43 = .ok (.putfield 155, 3) := by decide +kernel
theorem dX11_type_46 : decode cX11_type 46 = .ok (.aload_n 0, 1) := by decide +kernel
theorem dX11_type_47 : decode cX11_type 47 = .ok (.getfield 155, 3) := by decide +kernel
theorem dX11_type_50 : decode cX11_type 50 = .ok (.ireturn, 1) := by decide +kernel
theorem dX11_clearText_0 : decode cX11_clearText 0 = .ok (.aload_n 0, 1) := by decide +kernel
theorem dX11_clearText_1 : decode cX11_clearText 1 = .ok (.getfield 155, 3) := by decide +kernel
theorem dX11_clearText_4 : decode cX11_clearText 4 = .ok (.istore_n 1, 1) := by decide +kernel
theorem dX11_clearText_5 : decode cX11_clearText 5 = .ok (.aload_n 0, 1) := by decide +kernel
theorem dX11_clearText_6 : decode cX11_clearText 6 = .ok (.iconst 0, 1) := by decide +kernel
theorem dX11_clearText_7 : decode cX11_clearText 7 = .ok (.putfield 155, 3) := by decide +kernel
theorem dX11_clearText_10 : decode cX11_clearText 10 = .ok (.iload_n 1, 1) := by decide +kernel
theorem dX11_clearText_11 : decode cX11_clearText 11 = .ok (.ireturn, 1) := by decide +kernel
theorem dX11_digitAt_0 : decode cX11_digitAt 0 = .ok (.iload_n 1, 1) := by decide +kernel
theorem dX11_digitAt_1 : decode cX11_digitAt 1 = .ok (.aload_n 0, 1) := by decide +kernel
theorem dX11_digitAt_2 : decode cX11_digitAt 2 = .ok (.getfield 155, 3) := by decide +kernel
theorem dX11_digitAt_5 : decode cX11_digitAt 5 = .ok (.if_icmp .ge 12, 3) := by decide +kernel
theorem dX11_digitAt_8 : decode cX11_digitAt 8 = .ok (.aload_n 0, 1) := by decide +kernel
theorem dX11_digitAt_9 : decode cX11_digitAt 9 = .ok (.getfield 16, 3) := by decide +kernel
theorem dX11_digitAt_12 : decode cX11_digitAt 12 = .ok (.iload_n 1, 1) := by decide +kernel
theorem dX11_digitAt_13 : decode cX11_digitAt 13 = .ok (.iaload, 1) := by decide +kernel
theorem dX11_digitAt_14 : decode cX11_digitAt 14 = .ok (.goto 5, 3) := by decide +kernel
theorem dX11_digitAt_17 : decode cX11_digitAt 17 = .ok (.bipush 32, 2) := by decide +kernel
theorem dX11_digitAt_19 : decode cX11_digitAt 19 = .ok (.istore_n 2, 1) := by decide +kernel
theorem dX11_digitAt_20 : decode cX11_digitAt 20 = .ok (.iload_n 2, 1) := by decide +kernel
theorem dX11_digitAt_21 : decode cX11_digitAt 21 = .ok (.bipush 48, 2) := by decide +kernel
theorem dX11_digitAt_23 : decode cX11_digitAt 23 = .ok (.bipush 57, 2) := by decide +kernel
theorem dX11_digitAt_25 : decode cX11_digitAt 25 = .ok (.invokestatic 57, 3) := by decide +kernel
theorem dX11_digitAt_28 : decode cX11_digitAt 28 = .ok (.ifCond .eq 10, 3) := by decide +kernel
theorem dX11_digitAt_31 : decode cX11_digitAt 31 = .ok (.iload_n 2, 1) := by decide +kernel
theorem dX11_digitAt_32 : decode cX11_digitAt 32 = .ok (.bipush 48, 2) := by decide +kernel
theorem dX11_digitAt_34 : decode cX11_digitAt 34 = .ok (.isub, 1) := by decide +kernel
theorem dX11_digitAt_35 : decode cX11_digitAt 35 = .ok (.goto 46, 3) := by decide +kernel
theorem dX11_digitAt_38 : decode cX11_digitAt 38 = .ok (.iload_n 2, 1) := by decide +kernel
theorem dX11_digitAt_39 : decode cX11_digitAt 39 = .ok (.bipush 97, 2) := by decide +kernel
theorem dX11_digitAt_41 : decode cX11_digitAt 41 = .ok (.bipush 102, 2) := by decide +kernel
theorem dX11_digitAt_43 : decode cX11_digitAt 43 = .ok (.invokestatic 57, 3) := by decide +kernel
theorem dX11_digitAt_46 : decode cX11_digitAt 46 = .ok (.ifCond .eq 13, 3) := by decide +kernel
theorem dX11_digitAt_49 : decode cX11_digitAt 49 = .ok (.iload_n 2, 1) := by decide +kernel
theorem dX11_digitAt_50 : decode cX11_digitAt 50 = .ok (.bipush 97, 2) := by decide +kernel
theorem dX11_digitAt_52 : decode cX11_digitAt 52 = .ok (.isub, 1) := by decide +kernel
theorem dX11_digitAt_53 : decode cX11_digitAt 53 = .ok (.bipush 10, 2) := by decide +kernel
theorem dX11_digitAt_55 : decode cX11_digitAt 55 = .ok (.iadd, 1) := by decide +kernel
theorem dX11_digitAt_56 : decode cX11_digitAt 56 = .ok (.goto 25, 3) := by decide +kernel
theorem dX11_digitAt_59 : decode cX11_digitAt 59 = .ok (.iload_n 2, 1) := by decide +kernel
theorem dX11_digitAt_60 : decode cX11_digitAt 60 = .ok (.bipush 65, 2) := by decide +kernel
theorem dX11_digitAt_62 : decode cX11_digitAt 62 = .ok (.bipush 70, 2) := by decide +kernel
theorem dX11_digitAt_64 : decode cX11_digitAt 64 = .ok (.invokestatic 57, 3) := by decide +kernel
theorem dX11_digitAt_67 : decode cX11_digitAt 67 = .ok (.ifCond .eq 13, 3) := by decide +kernel
theorem dX11_digitAt_70 : decode cX11_digitAt 70 = .ok (.iload_n 2, 1) := by decide +kernel
theorem dX11_digitAt_71 : decode cX11_digitAt 71 = .ok (.bipush 65, 2) := by decide +kernel
theorem dX11_digitAt_73 : decode cX11_digitAt 73 = .ok (.isub, 1) := by decide +kernel
theorem dX11_digitAt_74 : decode cX11_digitAt 74 = .ok (.bipush 10, 2) := by decide +kernel
theorem dX11_digitAt_76 : decode cX11_digitAt 76 = .ok (.iadd, 1) := by decide +kernel
theorem dX11_digitAt_77 : decode cX11_digitAt 77 = .ok (.goto 4, 3) := by decide +kernel
theorem dX11_digitAt_80 : decode cX11_digitAt 80 = .ok (.iconst (-1), 1) := by decide +kernel
theorem dX11_digitAt_81 : decode cX11_digitAt 81 = .ok (.ireturn, 1) := by decide +kernel
theorem dX11_readsDigits_0 : decode cX11_readsDigits 0 = .ok (.iload_n 1, 1) := by decide +kernel
theorem dX11_readsDigits_1 : decode cX11_readsDigits 1 = .ok (.istore_n 2, 1) := by decide +kernel
theorem dX11_readsDigits_2 : decode cX11_readsDigits 2 = .ok (.iconst 0, 1) := by decide +kernel
theorem dX11_readsDigits_3 : decode cX11_readsDigits 3 = .ok (.istore_n 3, 1) := by decide +kernel
theorem dX11_readsDigits_4 : decode cX11_readsDigits 4 = .ok (.iload_n 2, 1) := by decide +kernel
theorem dX11_readsDigits_5 : decode cX11_readsDigits 5 = .ok (.iload_n 1, 1) := by decide +kernel
theorem dX11_readsDigits_6 : decode cX11_readsDigits 6 = .ok (.bipush 6, 2) := by decide +kernel
theorem dX11_readsDigits_8 : decode cX11_readsDigits 8 = .ok (.iadd, 1) := by decide +kernel
theorem dX11_readsDigits_9 : decode cX11_readsDigits 9 = .ok (.if_icmp .ge 28, 3) := by decide +kernel
theorem dX11_readsDigits_12 : decode cX11_readsDigits 12 = .ok (.aload_n 0, 1) := by decide +kernel
theorem dX11_readsDigits_13 : decode cX11_readsDigits 13 = .ok (.iload_n 2, 1) := by decide +kernel
theorem dX11_readsDigits_14 : decode cX11_readsDigits 14 = .ok (.invokevirtual 158, 3) := by decide +kernel
theorem dX11_readsDigits_17 : decode cX11_readsDigits 17 = .ok (.ifCond .lt 20, 3) := by decide +kernel
theorem dX11_readsDigits_20 : decode cX11_readsDigits 20 = .ok (.bipush 16, 2) := by decide +kernel
theorem dX11_readsDigits_22 : decode cX11_readsDigits 22 = .ok (.iload_n 3, 1) := by decide +kernel
theorem dX11_readsDigits_23 : decode cX11_readsDigits 23 = .ok (.imul, 1) := by decide +kernel
theorem dX11_readsDigits_24 : decode cX11_readsDigits 24 = .ok (.aload_n 0, 1) := by decide +kernel
theorem dX11_readsDigits_25 : decode cX11_readsDigits 25 = .ok (.iload_n 2, 1) := by decide +kernel
theorem dX11_readsDigits_26 : decode cX11_readsDigits 26 = .ok (.invokevirtual 158, 3) := by decide +kernel
theorem dX11_readsDigits_29 : decode cX11_readsDigits 29 = .ok (.iadd, 1) := by decide +kernel
theorem dX11_readsDigits_30 : decode cX11_readsDigits 30 = .ok (.istore_n 3, 1) := by decide +kernel
theorem dX11_readsDigits_31 : decode cX11_readsDigits 31 = .ok (.iinc 2 1, 3) := by decide +kernel
theorem dX11_readsDigits_34 : decode cX11_readsDigits 34 = .ok (.goto (-30), 3) := by decide +kernel
theorem dX11_readsDigits_37 : decode cX11_readsDigits 37 = .ok (.bipush 17, 2) := by decide +kernel
theorem dX11_readsDigits_39 : decode cX11_readsDigits 39 = .ok (.iload_n 3, 1) := by decide +kernel
theorem dX11_readsDigits_40 : decode cX11_readsDigits 40 = .ok (.bipush 8, 2) := by decide +kernel
theorem dX11_readsDigits_42 : decode cX11_readsDigits 42 = .ok (.ishr, 1) := by decide +kernel
theorem dX11_readsDigits_43 : decode cX11_readsDigits 43 = .ok (.bipush 15, 2) := by decide +kernel
theorem dX11_readsDigits_45 : decode cX11_readsDigits 45 = .ok (.iand, 1) := by decide +kernel
theorem dX11_readsDigits_46 : decode cX11_readsDigits 46 = .ok (.imul, 1) := by decide +kernel
theorem dX11_readsDigits_47 : decode cX11_readsDigits 47 = .ok (.istore 4, 2) := by decide +kernel
theorem dX11_readsDigits_49 : decode cX11_readsDigits 49 = .ok (.bipush 17, 2) := by decide +kernel
theorem dX11_readsDigits_51 : decode cX11_readsDigits 51 = .ok (.iload_n 3, 1) := by decide +kernel
theorem dX11_readsDigits_52 : decode cX11_readsDigits 52 = .ok (.iconst 4, 1) := by decide +kernel
theorem dX11_readsDigits_53 : decode cX11_readsDigits 53 = .ok (.ishr, 1) := by decide +kernel
theorem dX11_readsDigits_54 : decode cX11_readsDigits 54 = .ok (.bipush 15, 2) := by decide +kernel
theorem dX11_readsDigits_56 : decode cX11_readsDigits 56 = .ok (.iand, 1) := by decide +kernel
theorem dX11_readsDigits_57 : decode cX11_readsDigits 57 = .ok (.imul, 1) := by decide +kernel
theorem dX11_readsDigits_58 : decode cX11_readsDigits 58 = .ok (.istore 5, 2) := by decide +kernel
theorem dX11_readsDigits_60 : decode cX11_readsDigits 60 = .ok (.ldc 161, 2) := by decide +kernel
theorem dX11_readsDigits_62 : decode cX11_readsDigits 62 = .ok (.iload 4, 2) := by decide +kernel
theorem dX11_readsDigits_64 : decode cX11_readsDigits 64 = .ok (.imul, 1) := by decide +kernel
theorem dX11_readsDigits_65 : decode cX11_readsDigits 65 = .ok (.sipush 256, 3) := by decide +kernel
theorem dX11_readsDigits_68 : decode cX11_readsDigits 68 = .ok (.iload 5, 2) := by decide +kernel
theorem dX11_readsDigits_70 : decode cX11_readsDigits 70 = .ok (.imul, 1) := by decide +kernel
theorem dX11_readsDigits_71 : decode cX11_readsDigits 71 = .ok (.iadd, 1) := by decide +kernel
theorem dX11_readsDigits_72 : decode cX11_readsDigits 72 = .ok (.bipush 17, 2) := by decide +kernel
theorem dX11_readsDigits_74 : decode cX11_readsDigits 74 = .ok (.iload_n 3, 1) := by decide +kernel
theorem dX11_readsDigits_75 : decode cX11_readsDigits 75 = .ok (.bipush 15, 2) := by decide +kernel
theorem dX11_readsDigits_77 : decode cX11_readsDigits 77 = .ok (.iand, 1) := by decide +kernel
theorem dX11_readsDigits_78 : decode cX11_readsDigits 78 = .ok (.imul, 1) := by decide +kernel
theorem dX11_readsDigits_79 : decode cX11_readsDigits 79 = .ok (.iadd, 1) := by decide +kernel
theorem dX11_readsDigits_80 : decode cX11_readsDigits 80 = .ok (.istore 6, 2) := by decide +kernel
theorem dX11_readsDigits_82 : decode cX11_readsDigits 82 = .ok (.aload_n 0, 1) := by decide +kernel
theorem dX11_readsDigits_83 : decode cX11_readsDigits 83 = .ok (.getfield 37, 3) := by decide +kernel
theorem dX11_readsDigits_86 : decode cX11_readsDigits 86 = .ok (.aload_n 0, 1) := by decide +kernel
theorem dX11_readsDigits_87 : decode cX11_readsDigits 87 = .ok (.getfield 162, 3) := by decide +kernel
theorem dX11_readsDigits_90 : decode cX11_readsDigits 90 = .ok (.iload_n 2, 1) := by decide +kernel
theorem dX11_readsDigits_91 : decode cX11_readsDigits 91 = .ok (.iload_n 1, 1) := by decide +kernel
theorem dX11_readsDigits_92 : decode cX11_readsDigits 92 = .ok (.bipush 6, 2) := by decide +kernel
theorem dX11_readsDigits_94 : decode cX11_readsDigits 94 = .ok (.iadd, 1) := by decide +kernel
theorem dX11_readsDigits_95 : decode cX11_readsDigits 95 = .ok (.if_icmp .ne 7, 3) := by decide +kernel
theorem dX11_readsDigits_98 : decode cX11_readsDigits 98 = .ok (.iload_n 3, 1) := by decide +kernel
theorem dX11_readsDigits_99 : decode cX11_readsDigits 99 = .ok (.goto 16, 3) := by decide +kernel
theorem dX11_readsDigits_102 : decode cX11_readsDigits 102 = .ok (.iload_n 2, 1) := by decide +kernel
theorem dX11_readsDigits_103 : decode cX11_readsDigits 103 = .ok (.iload_n 1, 1) := by decide +kernel
theorem dX11_readsDigits_104 : decode cX11_readsDigits 104 = .ok (.iconst 3, 1) := by decide +kernel
theorem dX11_readsDigits_105 : decode cX11_readsDigits 105 = .ok (.iadd, 1) := by decide +kernel
theorem dX11_readsDigits_106 : decode cX11_readsDigits 106 = .ok (.if_icmp .ne 8, 3) := by decide +kernel
theorem dX11_readsDigits_109 : decode cX11_readsDigits 109 = .ok (.iload 6, 2) := by decide +kernel
theorem dX11_readsDigits_111 : decode cX11_readsDigits 111 = .ok (.goto 4, 3) := by decide +kernel
theorem dX11_readsDigits_114 : decode cX11_readsDigits 114 = .ok (.iconst (-1), 1) := by decide +kernel
theorem dX11_readsDigits_115 : decode cX11_readsDigits 115 = .ok (.iastore, 1) := by decide +kernel
theorem dX11_readsDigits_116 : decode cX11_readsDigits 116 = .ok (.iload_n 2, 1) := by decide +kernel
theorem dX11_readsDigits_117 : decode cX11_readsDigits 117 = .ok (.ireturn, 1) := by decide +kernel
theorem dX11_fault_0 : decode cX11_fault 0 = .ok (.aload_n 0, 1) := by decide +kernel
theorem dX11_fault_1 : decode cX11_fault 1 = .ok (.iconst 0, 1) := by decide +kernel
theorem dX11_fault_2 : decode cX11_fault 2 = .ok (.putfield 162, 3) := by decide +kernel
theorem dX11_fault_5 : decode cX11_fault 5 = .ok (.iconst 0, 1) := by decide +kernel
theorem dX11_fault_6 : decode cX11_fault 6 = .ok (.istore_n 1, 1) := by decide +kernel
theorem dX11_fault_7 : decode cX11_fault 7 = .ok (.iload_n 1, 1) := by decide +kernel
theorem dX11_fault_8 : decode cX11_fault 8 = .ok (.aload_n 0, 1) := by decide +kernel
theorem dX11_fault_9 : decode cX11_fault 9 = .ok (.getfield 155, 3) := by decide +kernel
theorem dX11_fault_12 : decode cX11_fault 12 = .ok (.if_icmp .ge 129, 3) := by decide +kernel
theorem dX11_fault_15 : decode cX11_fault 15 = .ok (.aload_n 0, 1) := by decide +kernel
theorem dX11_fault_16 : decode cX11_fault 16 = .ok (.getfield 16, 3) := by decide +kernel
theorem dX11_fault_19 : decode cX11_fault 19 = .ok (.iload_n 1, 1) := by decide +kernel
theorem dX11_fault_20 : decode cX11_fault 20 = .ok (.iaload, 1) := by decide +kernel
theorem dX11_fault_21 : decode cX11_fault 21 = .ok (.istore_n 2, 1) := by decide +kernel
theorem dX11_fault_22 : decode cX11_fault 22 = .ok (.iload_n 2, 1) := by decide +kernel
theorem dX11_fault_23 : decode cX11_fault 23 = .ok (.bipush 35, 2) := by decide +kernel
theorem dX11_fault_25 : decode cX11_fault 25 = .ok (.if_icmp .ne 93, 3) := by decide +kernel
theorem dX11_fault_28 : decode cX11_fault 28 = .ok (.aload_n 0, 1) := by decide +kernel
theorem dX11_fault_29 : decode cX11_fault 29 = .ok (.getfield 162, 3) := by decide +kernel
theorem dX11_fault_32 : decode cX11_fault 32 = .ok (.bipush 16, 2) := by decide +kernel
theorem dX11_fault_34 : decode cX11_fault 34 = .ok (.if_icmp .ge 84, 3) := by decide +kernel
theorem dX11_fault_37 : decode cX11_fault 37 = .ok (.aload_n 0, 1) := by decide +kernel
theorem dX11_fault_38 : decode cX11_fault 38 = .ok (.iload_n 1, 1) := by decide +kernel
theorem dX11_fault_39 : decode cX11_fault 39 = .ok (.iconst 1, 1) := by decide +kernel
theorem dX11_fault_40 : decode cX11_fault 40 = .ok (.iadd, 1) := by decide +kernel
theorem dX11_fault_41 : decode cX11_fault 41 = .ok (.invokevirtual 165, 3) := by decide +kernel
theorem dX11_fault_44 : decode cX11_fault 44 = .ok (.istore_n 1, 1) := by decide +kernel
theorem dX11_fault_45 : decode cX11_fault 45 = .ok (.aload_n 0, 1) := by decide +kernel
theorem dX11_fault_46 : decode cX11_fault 46 = .ok (.getfield 37, 3) := by decide +kernel
theorem dX11_fault_49 : decode cX11_fault 49 = .ok (.aload_n 0, 1) := by decide +kernel
theorem dX11_fault_50 : decode cX11_fault 50 = .ok (.getfield 162, 3) := by decide +kernel
theorem dX11_fault_53 : decode cX11_fault 53 = .ok (.iaload, 1) := by decide +kernel
theorem dX11_fault_54 : decode cX11_fault 54 = .ok (.iconst (-1), 1) := by decide +kernel
theorem dX11_fault_55 : decode cX11_fault 55 = .ok (.if_icmp .ne 5, 3) := by decide +kernel
theorem dX11_fault_58 : decode cX11_fault 58 = .ok (.iload_n 1, 1) := by decide +kernel
theorem dX11_fault_59 : decode cX11_fault 59 = .ok (.ireturn, 1) := by decide +kernel
theorem dX11_fault_60 : decode cX11_fault 60 = .ok (.aload_n 0, 1) := by decide +kernel
theorem dX11_fault_61 : decode cX11_fault 61 = .ok (.getfield 40, 3) := by decide +kernel
theorem dX11_fault_64 : decode cX11_fault 64 = .ok (.aload_n 0, 1) := by decide +kernel
theorem dX11_fault_65 : decode cX11_fault 65 = .ok (.getfield 162, 3) := by decide +kernel
theorem dX11_fault_68 : decode cX11_fault 68 = .ok (.iload_n 1, 1) := by decide +kernel
theorem dX11_fault_69 : decode cX11_fault 69 = .ok (.aload_n 0, 1) := by decide +kernel
theorem dX11_fault_70 : decode cX11_fault 70 = .ok (.getfield 155, 3) := by decide +kernel
theorem dX11_fault_73 : decode cX11_fault 73 = .ok (.if_icmp .ge 18, 3) := by decide +kernel
theorem dX11_fault_76 : decode cX11_fault 76 = .ok (.aload_n 0, 1) := by decide +kernel
theorem dX11_fault_77 : decode cX11_fault 77 = .ok (.getfield 16, 3) := by decide +kernel
theorem dX11_fault_80 : decode cX11_fault 80 = .ok (.iload_n 1, 1) := by decide +kernel
theorem dX11_fault_81 : decode cX11_fault 81 = .ok (.iaload, 1) := by decide +kernel
theorem dX11_fault_82 : decode cX11_fault 82 = .ok (.bipush 33, 2) := by decide +kernel
theorem dX11_fault_84 : decode cX11_fault 84 = .ok (.if_icmp .ne 7, 3) := by decide +kernel
theorem dX11_fault_87 : decode cX11_fault 87 = .ok (.iconst 1, 1) := by decide +kernel
theorem dX11_fault_88 : decode cX11_fault 88 = .ok (.goto 4, 3) := by decide +kernel
theorem dX11_fault_91 : decode cX11_fault 91 = .ok (.iconst 0, 1) := by decide +kernel
theorem dX11_fault_92 : decode cX11_fault 92 = .ok (.iastore, 1) := by decide +kernel
theorem dX11_fault_93 : decode cX11_fault 93 = .ok (.iload_n 1, 1) := by decide +kernel
theorem dX11_fault_94 : decode cX11_fault 94 = .ok (.aload_n 0, 1) := by decide +kernel
theorem dX11_fault_95 : decode cX11_fault 95 = .ok (.getfield 40, 3) := by decide +kernel
theorem dX11_fault_98 : decode cX11_fault 98 = .ok (.aload_n 0, 1) := by decide +kernel
theorem dX11_fault_99 : decode cX11_fault 99 = .ok (.getfield 162, 3) := by decide +kernel
theorem dX11_fault_102 : decode cX11_fault 102 = .ok (.iaload, 1) := by decide +kernel
theorem dX11_fault_103 : decode cX11_fault 103 = .ok (.iadd, 1) := by decide +kernel
theorem dX11_fault_104 : decode cX11_fault 104 = .ok (.istore_n 1, 1) := by decide +kernel
theorem dX11_fault_105 : decode cX11_fault 105 = .ok (.aload_n 0, 1) := by decide +kernel
theorem dX11_fault_106 : decode cX11_fault 106 = .ok (.dup, 1) := by decide +kernel
theorem dX11_fault_107 : decode cX11_fault 107 = .ok (.getfield 162, 3) := by decide +kernel
theorem dX11_fault_110 : decode cX11_fault 110 = .ok (.iconst 1, 1) := by decide +kernel
theorem dX11_fault_111 : decode cX11_fault 111 = .ok (.iadd, 1) := by decide +kernel
theorem dX11_fault_112 : decode cX11_fault 112 = .ok (.putfield 162, 3) := by decide +kernel
theorem dX11_fault_115 : decode cX11_fault 115 = .ok (.goto 23, 3) := by decide +kernel
theorem dX11_fault_118 : decode cX11_fault 118 = .ok (.iload_n 2, 1) := by decide +kernel
theorem dX11_fault_119 : decode cX11_fault 119 = .ok (.bipush 32, 2) := by decide +kernel
theorem dX11_fault_121 : decode cX11_fault 121 = .ok (.if_icmp .eq 9, 3) := by decide +kernel
theorem dX11_fault_124 : decode cX11_fault 124 = .ok (.iload_n 2, 1) := by decide +kernel
theorem dX11_fault_125 : decode cX11_fault 125 = .ok (.bipush 44, 2) := by decide +kernel
theorem dX11_fault_127 : decode cX11_fault 127 = .ok (.if_icmp .ne 9, 3) := by decide +kernel
theorem dX11_fault_130 : decode cX11_fault 130 = .ok (.iinc 1 1, 3) := by decide +kernel
theorem dX11_fault_133 : decode cX11_fault 133 = .ok (.goto 5, 3) := by decide +kernel
theorem dX11_fault_136 : decode cX11_fault 136 = .ok (.iload_n 1, 1) := by decide +kernel
theorem dX11_fault_137 : decode cX11_fault 137 = .ok (.ireturn, 1) := by decide +kernel
theorem dX11_fault_138 : decode cX11_fault 138 = .ok (.goto (-131), 3) := by decide +kernel
theorem dX11_fault_141 : decode cX11_fault 141 = .ok (.iconst (-1), 1) := by decide +kernel
theorem dX11_fault_142 : decode cX11_fault 142 = .ok (.ireturn, 1) := by decide +kernel
theorem dX11_load_0 : decode cX11_load 0 = .ok (.aload_n 0, 1) := by decide +kernel
theorem dX11_load_1 : decode cX11_load 1 = .ok (.invokevirtual 168, 3) := by decide +kernel
theorem dX11_load_4 : decode cX11_load 4 = .ok (.iconst (-1), 1) := by decide +kernel
theorem dX11_load_5 : decode cX11_load 5 = .ok (.if_icmp .eq 6, 3) := by decide +kernel
theorem dX11_load_8 : decode cX11_load 8 = .ok (.bipush (-3), 2) := by decide +kernel
theorem dX11_load_10 : decode cX11_load 10 = .ok (.ireturn, 1) := by decide +kernel
theorem dX11_load_11 : decode cX11_load 11 = .ok (.aload_n 0, 1) := by decide +kernel
theorem dX11_load_12 : decode cX11_load 12 = .ok (.iconst 1, 1) := by decide +kernel
theorem dX11_load_13 : decode cX11_load 13 = .ok (.invokevirtual 83, 3) := by decide +kernel
theorem dX11_load_16 : decode cX11_load 16 = .ok (.aload_n 0, 1) := by decide +kernel
theorem dX11_load_17 : decode cX11_load 17 = .ok (.getfield 7, 3) := by decide +kernel
theorem dX11_load_20 : decode cX11_load 20 = .ok (.sipush 258, 3) := by decide +kernel
theorem dX11_load_23 : decode cX11_load 23 = .ok (.iconst 0, 1) := by decide +kernel
theorem dX11_load_24 : decode cX11_load 24 = .ok (.iastore, 1) := by decide +kernel
theorem dX11_load_25 : decode cX11_load 25 = .ok (.iconst 0, 1) := by decide +kernel
theorem dX11_load_26 : decode cX11_load 26 = .ok (.istore_n 1, 1) := by decide +kernel
theorem dX11_load_27 : decode cX11_load 27 = .ok (.iload_n 1, 1) := by decide +kernel
theorem dX11_load_28 : decode cX11_load 28 = .ok (.aload_n 0, 1) := by decide +kernel
theorem dX11_load_29 : decode cX11_load 29 = .ok (.getfield 162, 3) := by decide +kernel
theorem dX11_load_32 : decode cX11_load 32 = .ok (.if_icmp .ge 41, 3) := by decide +kernel
theorem dX11_load_35 : decode cX11_load 35 = .ok (.aload_n 0, 1) := by decide +kernel
theorem dX11_load_36 : decode cX11_load 36 = .ok (.getfield 7, 3) := by decide +kernel
theorem dX11_load_39 : decode cX11_load 39 = .ok (.sipush 259, 3) := by decide +kernel
theorem dX11_load_42 : decode cX11_load 42 = .ok (.iload_n 1, 1) := by decide +kernel
theorem dX11_load_43 : decode cX11_load 43 = .ok (.iadd, 1) := by decide +kernel
theorem dX11_load_44 : decode cX11_load 44 = .ok (.aload_n 0, 1) := by decide +kernel
theorem dX11_load_45 : decode cX11_load 45 = .ok (.getfield 37, 3) := by decide +kernel
theorem dX11_load_48 : decode cX11_load 48 = .ok (.iload_n 1, 1) := by decide +kernel
theorem dX11_load_49 : decode cX11_load 49 = .ok (.iaload, 1) := by decide +kernel
theorem dX11_load_50 : decode cX11_load 50 = .ok (.iastore, 1) := by decide +kernel
theorem dX11_load_51 : decode cX11_load 51 = .ok (.aload_n 0, 1) := by decide +kernel
theorem dX11_load_52 : decode cX11_load 52 = .ok (.getfield 7, 3) := by decide +kernel
theorem dX11_load_55 : decode cX11_load 55 = .ok (.sipush 275, 3) := by decide +kernel
theorem dX11_load_58 : decode cX11_load 58 = .ok (.iload_n 1, 1) := by decide +kernel
theorem dX11_load_59 : decode cX11_load 59 = .ok (.iadd, 1) := by decide +kernel
theorem dX11_load_60 : decode cX11_load 60 = .ok (.aload_n 0, 1) := by decide +kernel
theorem dX11_load_61 : decode cX11_load 61 = .ok (.getfield 40, 3) := by decide +kernel
theorem dX11_load_64 : decode cX11_load 64 = .ok (.iload_n 1, 1) := by decide +kernel
theorem dX11_load_65 : decode cX11_load 65 = .ok (.iaload, 1) := by decide +kernel
theorem dX11_load_66 : decode cX11_load 66 = .ok (.iastore, 1) := by decide +kernel
theorem dX11_load_67 : decode cX11_load 67 = .ok (.iinc 1 1, 3) := by decide +kernel
theorem dX11_load_70 : decode cX11_load 70 = .ok (.goto (-43), 3) := by decide +kernel
theorem dX11_load_73 : decode cX11_load 73 = .ok (.aload_n 0, 1) := by decide +kernel
theorem dX11_load_74 : decode cX11_load 74 = .ok (.getfield 7, 3) := by decide +kernel
theorem dX11_load_77 : decode cX11_load 77 = .ok (.sipush 258, 3) := by decide +kernel
theorem dX11_load_80 : decode cX11_load 80 = .ok (.aload_n 0, 1) := by decide +kernel
theorem dX11_load_81 : decode cX11_load 81 = .ok (.getfield 162, 3) := by decide +kernel
theorem dX11_load_84 : decode cX11_load 84 = .ok (.iastore, 1) := by decide +kernel
theorem dX11_load_85 : decode cX11_load 85 = .ok (.aload_n 0, 1) := by decide +kernel
theorem dX11_load_86 : decode cX11_load 86 = .ok (.iconst 0, 1) := by decide +kernel
theorem dX11_load_87 : decode cX11_load 87 = .ok (.putfield 155, 3) := by decide +kernel
theorem dX11_load_90 : decode cX11_load 90 = .ok (.aload_n 0, 1) := by decide +kernel
theorem dX11_load_91 : decode cX11_load 91 = .ok (.getfield 162, 3) := by decide +kernel
theorem dX11_load_94 : decode cX11_load 94 = .ok (.ireturn, 1) := by decide +kernel
theorem dX11_colorsIn_0 : decode cX11_colorsIn 0 = .ok (.iconst 0, 1) := by decide +kernel
theorem dX11_colorsIn_1 : decode cX11_colorsIn 1 = .ok (.istore_n 2, 1) := by decide +kernel
theorem dX11_colorsIn_2 : decode cX11_colorsIn 2 = .ok (.iconst 0, 1) := by decide +kernel
theorem dX11_colorsIn_3 : decode cX11_colorsIn 3 = .ok (.istore_n 3, 1) := by decide +kernel
theorem dX11_colorsIn_4 : decode cX11_colorsIn 4 = .ok (.iload_n 3, 1) := by decide +kernel
theorem dX11_colorsIn_5 : decode cX11_colorsIn 5 = .ok (.aload_n 0, 1) := by decide +kernel
theorem dX11_colorsIn_6 : decode cX11_colorsIn 6 = .ok (.getfield 115, 3) := by decide +kernel
theorem dX11_colorsIn_9 : decode cX11_colorsIn 9 = .ok (.if_icmp .ge 27, 3) := by decide +kernel
theorem dX11_colorsIn_12 : decode cX11_colorsIn 12 = .ok (.iload_n 2, 1) := by decide +kernel
theorem dX11_colorsIn_13 : decode cX11_colorsIn 13 = .ok (.aload_n 0, 1) := by decide +kernel
theorem dX11_colorsIn_14 : decode cX11_colorsIn 14 = .ok (.getfield 43, 3) := by decide +kernel
theorem dX11_colorsIn_17 : decode cX11_colorsIn 17 = .ok (.iload_n 3, 1) := by decide +kernel
theorem dX11_colorsIn_18 : decode cX11_colorsIn 18 = .ok (.iaload, 1) := by decide +kernel
theorem dX11_colorsIn_19 : decode cX11_colorsIn 19 = .ok (.iload_n 1, 1) := by decide +kernel
theorem dX11_colorsIn_20 : decode cX11_colorsIn 20 = .ok (.if_icmp .ne 7, 3) := by decide +kernel
theorem dX11_colorsIn_23 : decode cX11_colorsIn 23 = .ok (.iconst 1, 1) := by decide +kernel
theorem dX11_colorsIn_24 : decode cX11_colorsIn 24 = .ok (.goto 4, 3) := by decide +kernel
theorem dX11_colorsIn_27 : decode cX11_colorsIn 27 = .ok (.iconst 0, 1) := by decide +kernel
theorem dX11_colorsIn_28 : decode cX11_colorsIn 28 = .ok (.iadd, 1) := by decide +kernel
theorem dX11_colorsIn_29 : decode cX11_colorsIn 29 = .ok (.istore_n 2, 1) := by decide +kernel
theorem dX11_colorsIn_30 : decode cX11_colorsIn 30 = .ok (.iinc 3 1, 3) := by decide +kernel
theorem dX11_colorsIn_33 : decode cX11_colorsIn 33 = .ok (.goto (-29), 3) := by decide +kernel
theorem dX11_colorsIn_36 : decode cX11_colorsIn 36 = .ok (.iload_n 2, 1) := by decide +kernel
theorem dX11_colorsIn_37 : decode cX11_colorsIn 37 = .ok (.ireturn, 1) := by decide +kernel
theorem dX11_pixelsIn_0 : decode cX11_pixelsIn 0 = .ok (.iconst 0, 1) := by decide +kernel
theorem dX11_pixelsIn_1 : decode cX11_pixelsIn 1 = .ok (.istore_n 2, 1) := by decide +kernel
theorem dX11_pixelsIn_2 : decode cX11_pixelsIn 2 = .ok (.iconst 0, 1) := by decide +kernel
theorem dX11_pixelsIn_3 : decode cX11_pixelsIn 3 = .ok (.istore_n 3, 1) := by decide +kernel
theorem dX11_pixelsIn_4 : decode cX11_pixelsIn 4 = .ok (.iload_n 3, 1) := by decide +kernel
theorem dX11_pixelsIn_5 : decode cX11_pixelsIn 5 = .ok (.aload_n 0, 1) := by decide +kernel
theorem dX11_pixelsIn_6 : decode cX11_pixelsIn 6 = .ok (.getfield 115, 3) := by decide +kernel
theorem dX11_pixelsIn_9 : decode cX11_pixelsIn 9 = .ok (.if_icmp .ge 32, 3) := by decide +kernel
theorem dX11_pixelsIn_12 : decode cX11_pixelsIn 12 = .ok (.iload_n 2, 1) := by decide +kernel
theorem dX11_pixelsIn_13 : decode cX11_pixelsIn 13 = .ok (.aload_n 0, 1) := by decide +kernel
theorem dX11_pixelsIn_14 : decode cX11_pixelsIn 14 = .ok (.getfield 43, 3) := by decide +kernel
theorem dX11_pixelsIn_17 : decode cX11_pixelsIn 17 = .ok (.iload_n 3, 1) := by decide +kernel
theorem dX11_pixelsIn_18 : decode cX11_pixelsIn 18 = .ok (.iaload, 1) := by decide +kernel
theorem dX11_pixelsIn_19 : decode cX11_pixelsIn 19 = .ok (.iload_n 1, 1) := by decide +kernel
theorem dX11_pixelsIn_20 : decode cX11_pixelsIn 20 = .ok (.if_icmp .ne 12, 3) := by decide +kernel
theorem dX11_pixelsIn_23 : decode cX11_pixelsIn 23 = .ok (.aload_n 0, 1) := by decide +kernel
theorem dX11_pixelsIn_24 : decode cX11_pixelsIn 24 = .ok (.getfield 22, 3) := by decide +kernel
theorem dX11_pixelsIn_27 : decode cX11_pixelsIn 27 = .ok (.iload_n 3, 1) := by decide +kernel
theorem dX11_pixelsIn_28 : decode cX11_pixelsIn 28 = .ok (.iaload, 1) := by decide +kernel
theorem dX11_pixelsIn_29 : decode cX11_pixelsIn 29 = .ok (.goto 4, 3) := by decide +kernel
theorem dX11_pixelsIn_32 : decode cX11_pixelsIn 32 = .ok (.iconst 0, 1) := by decide +kernel
theorem dX11_pixelsIn_33 : decode cX11_pixelsIn 33 = .ok (.iadd, 1) := by decide +kernel
theorem dX11_pixelsIn_34 : decode cX11_pixelsIn 34 = .ok (.istore_n 2, 1) := by decide +kernel
theorem dX11_pixelsIn_35 : decode cX11_pixelsIn 35 = .ok (.iinc 3 1, 3) := by decide +kernel
theorem dX11_pixelsIn_38 : decode cX11_pixelsIn 38 = .ok (.goto (-34), 3) := by decide +kernel
theorem dX11_pixelsIn_41 : decode cX11_pixelsIn 41 = .ok (.iload_n 2, 1) := by decide +kernel
theorem dX11_pixelsIn_42 : decode cX11_pixelsIn 42 = .ok (.ireturn, 1) := by decide +kernel
theorem dX11_rangeOf_0 : decode cX11_rangeOf 0 = .ok (.sipush 255, 3) := by decide +kernel
theorem dX11_rangeOf_3 : decode cX11_rangeOf 3 = .ok (.istore_n 3, 1) := by decide +kernel
theorem dX11_rangeOf_4 : decode cX11_rangeOf 4 = .ok (.iconst 0, 1) := by decide +kernel
theorem dX11_rangeOf_5 : decode cX11_rangeOf 5 = .ok (.istore 4, 2) := by decide +kernel
theorem dX11_rangeOf_7 : decode cX11_rangeOf 7 = .ok (.iconst 0, 1) := by decide +kernel
theorem dX11_rangeOf_8 : decode cX11_rangeOf 8 = .ok (.istore 5, 2) := by decide +kernel
theorem dX11_rangeOf_10 : decode cX11_rangeOf 10 = .ok (.iload 5, 2) := by decide +kernel
theorem dX11_rangeOf_12 : decode cX11_rangeOf 12 = .ok (.aload_n 0, 1) := by decide +kernel
theorem dX11_rangeOf_13 : decode cX11_rangeOf 13 = .ok (.getfield 115, 3) := by decide +kernel
theorem dX11_rangeOf_16 : decode cX11_rangeOf 16 = .ok (.if_icmp .ge 73, 3) := by decide +kernel
theorem dX11_rangeOf_19 : decode cX11_rangeOf 19 = .ok (.aload_n 0, 1) := by decide +kernel
theorem dX11_rangeOf_20 : decode cX11_rangeOf 20 = .ok (.getfield 19, 3) := by decide +kernel
theorem dX11_rangeOf_23 : decode cX11_rangeOf 23 = .ok (.iload 5, 2) := by decide +kernel
theorem dX11_rangeOf_25 : decode cX11_rangeOf 25 = .ok (.iaload, 1) := by decide +kernel
theorem dX11_rangeOf_26 : decode cX11_rangeOf 26 = .ok (.iload_n 2, 1) := by decide +kernel
theorem dX11_rangeOf_27 : decode cX11_rangeOf 27 = .ok (.invokestatic 69, 3) := by decide +kernel
theorem dX11_rangeOf_30 : decode cX11_rangeOf 30 = .ok (.istore 6, 2) := by decide +kernel
theorem dX11_rangeOf_32 : decode cX11_rangeOf 32 = .ok (.aload_n 0, 1) := by decide +kernel
theorem dX11_rangeOf_33 : decode cX11_rangeOf 33 = .ok (.getfield 43, 3) := by decide +kernel
theorem dX11_rangeOf_36 : decode cX11_rangeOf 36 = .ok (.iload 5, 2) := by decide +kernel
theorem dX11_rangeOf_38 : decode cX11_rangeOf 38 = .ok (.iaload, 1) := by decide +kernel
theorem dX11_rangeOf_39 : decode cX11_rangeOf 39 = .ok (.iload_n 1, 1) := by decide +kernel
theorem dX11_rangeOf_40 : decode cX11_rangeOf 40 = .ok (.if_icmp .ne 14, 3) := by decide +kernel
theorem dX11_rangeOf_43 : decode cX11_rangeOf 43 = .ok (.iload 6, 2) := by decide +kernel
theorem dX11_rangeOf_45 : decode cX11_rangeOf 45 = .ok (.iload_n 3, 1) := by decide +kernel
theorem dX11_rangeOf_46 : decode cX11_rangeOf 46 = .ok (.if_icmp .ge 8, 3) := by decide +kernel
theorem dX11_rangeOf_49 : decode cX11_rangeOf 49 = .ok (.iload 6, 2) := by decide +kernel
theorem dX11_rangeOf_51 : decode cX11_rangeOf 51 = .ok (.goto 4, 3) := by decide +kernel
theorem dX11_rangeOf_54 : decode cX11_rangeOf 54 = .ok (.iload_n 3, 1) := by decide +kernel
theorem dX11_rangeOf_55 : decode cX11_rangeOf 55 = .ok (.istore_n 3, 1) := by decide +kernel
theorem dX11_rangeOf_56 : decode cX11_rangeOf 56 = .ok (.aload_n 0, 1) := by decide +kernel
theorem dX11_rangeOf_57 : decode cX11_rangeOf 57 = .ok (.getfield 43, 3) := by decide +kernel
theorem dX11_rangeOf_60 : decode cX11_rangeOf 60 = .ok (.iload 5, 2) := by decide +kernel
theorem dX11_rangeOf_62 : decode cX11_rangeOf 62 = .ok (.iaload, 1) := by decide +kernel
theorem dX11_rangeOf_63 : decode cX11_rangeOf 63 = .ok (.iload_n 1, 1) := by decide +kernel
theorem dX11_rangeOf_64 : decode cX11_rangeOf 64 = .ok (.if_icmp .ne 15, 3) := by decide +kernel
theorem dX11_rangeOf_67 : decode cX11_rangeOf 67 = .ok (.iload 6, 2) := by decide +kernel
theorem dX11_rangeOf_69 : decode cX11_rangeOf 69 = .ok (.iload 4, 2) := by decide +kernel
theorem dX11_rangeOf_71 : decode cX11_rangeOf 71 = .ok (.if_icmp .le 8, 3) := by decide +kernel
theorem dX11_rangeOf_74 : decode cX11_rangeOf 74 = .ok (.iload 6, 2) := by decide +kernel
theorem dX11_rangeOf_76 : decode cX11_rangeOf 76 = .ok (.goto 5, 3) := by decide +kernel
theorem dX11_rangeOf_79 : decode cX11_rangeOf 79 = .ok (.iload 4, 2) := by decide +kernel
theorem dX11_rangeOf_81 : decode cX11_rangeOf 81 = .ok (.istore 4, 2) := by decide +kernel
theorem dX11_rangeOf_83 : decode cX11_rangeOf 83 = .ok (.iinc 5 1, 3) := by decide +kernel
theorem dX11_rangeOf_86 : decode cX11_rangeOf 86 = .ok (.goto (-76), 3) := by decide +kernel
theorem dX11_rangeOf_89 : decode cX11_rangeOf 89 = .ok (.iload 4, 2) := by decide +kernel
theorem dX11_rangeOf_91 : decode cX11_rangeOf 91 = .ok (.iload_n 3, 1) := by decide +kernel
theorem dX11_rangeOf_92 : decode cX11_rangeOf 92 = .ok (.isub, 1) := by decide +kernel
theorem dX11_rangeOf_93 : decode cX11_rangeOf 93 = .ok (.ireturn, 1) := by decide +kernel
theorem dX11_widest_0 : decode cX11_widest 0 = .ok (.iconst 0, 1) := by decide +kernel
theorem dX11_widest_1 : decode cX11_widest 1 = .ok (.istore_n 2, 1) := by decide +kernel
theorem dX11_widest_2 : decode cX11_widest 2 = .ok (.iconst 1, 1) := by decide +kernel
theorem dX11_widest_3 : decode cX11_widest 3 = .ok (.istore_n 3, 1) := by decide +kernel
theorem dX11_widest_4 : decode cX11_widest 4 = .ok (.iload_n 3, 1) := by decide +kernel
theorem dX11_widest_5 : decode cX11_widest 5 = .ok (.iconst 3, 1) := by decide +kernel
theorem dX11_widest_6 : decode cX11_widest 6 = .ok (.if_icmp .ge 30, 3) := by decide +kernel
theorem dX11_widest_9 : decode cX11_widest 9 = .ok (.aload_n 0, 1) := by decide +kernel
theorem dX11_widest_10 : decode cX11_widest 10 = .ok (.iload_n 1, 1) := by decide +kernel
theorem dX11_widest_11 : decode cX11_widest 11 = .ok (.iload_n 3, 1) := by decide +kernel
theorem dX11_widest_12 : decode cX11_widest 12 = .ok (.invokevirtual 171, 3) := by decide +kernel
theorem dX11_widest_15 : decode cX11_widest 15 = .ok (.aload_n 0, 1) := by decide +kernel
theorem dX11_widest_16 : decode cX11_widest 16 = .ok (.iload_n 1, 1) := by decide +kernel
theorem dX11_widest_17 : decode cX11_widest 17 = .ok (.iload_n 2, 1) := by decide +kernel
theorem dX11_widest_18 : decode cX11_widest 18 = .ok (.invokevirtual 171, 3) := by decide +kernel
theorem dX11_widest_21 : decode cX11_widest 21 = .ok (.if_icmp .le 7, 3) := by decide +kernel
theorem dX11_widest_24 : decode cX11_widest 24 = .ok (.iload_n 3, 1) := by decide +kernel
theorem dX11_widest_25 : decode cX11_widest 25 = .ok (.goto 4, 3) := by decide +kernel
theorem dX11_widest_28 : decode cX11_widest 28 = .ok (.iload_n 2, 1) := by decide +kernel
theorem dX11_widest_29 : decode cX11_widest 29 = .ok (.istore_n 2, 1) := by decide +kernel
theorem dX11_widest_30 : decode cX11_widest 30 = .ok (.iinc 3 1, 3) := by decide +kernel
theorem dX11_widest_33 : decode cX11_widest 33 = .ok (.goto (-29), 3) := by decide +kernel
theorem dX11_widest_36 : decode cX11_widest 36 = .ok (.iload_n 2, 1) := by decide +kernel
theorem dX11_widest_37 : decode cX11_widest 37 = .ok (.ireturn, 1) := by decide +kernel
theorem dX11_spread_0 : decode cX11_spread 0 = .ok (.lconst 0, 1) := by decide +kernel
theorem dX11_spread_1 : decode cX11_spread 1 = .ok (.lstore_n 2, 1) := by decide +kernel
theorem dX11_spread_2 : decode cX11_spread 2 = .ok (.aload_n 0, 1) := by decide +kernel
theorem dX11_spread_3 : decode cX11_spread 3 = .ok (.iload_n 1, 1) := by decide +kernel
theorem dX11_spread_4 : decode cX11_spread 4 = .ok (.invokevirtual 174, 3) := by decide +kernel
theorem dX11_spread_7 : decode cX11_spread 7 = .ok (.i2l, 1) := by decide +kernel
theorem dX11_spread_8 : decode cX11_spread 8 = .ok (.lstore 4, 2) := by decide +kernel
theorem dX11_spread_10 : decode cX11_spread 10 = .ok (.iconst 0, 1) := by decide +kernel
theorem dX11_spread_11 : decode cX11_spread 11 = .ok (.istore 6, 2) := by decide +kernel
theorem dX11_spread_13 : decode cX11_spread 13 = .ok (.iload 6, 2) := by decide +kernel
theorem dX11_spread_15 : decode cX11_spread 15 = .ok (.iconst 3, 1) := by decide +kernel
theorem dX11_spread_16 : decode cX11_spread 16 = .ok (.if_icmp .ge 127, 3) := by decide +kernel
theorem dX11_spread_19 : decode cX11_spread 19 = .ok (.lconst 0, 1) := by decide +kernel
theorem dX11_spread_20 : decode cX11_spread 20 = .ok (.lstore 7, 2) := by decide +kernel
theorem dX11_spread_22 : decode cX11_spread 22 = .ok (.lconst 0, 1) := by decide +kernel
theorem dX11_spread_23 : decode cX11_spread 23 = .ok (.lstore 9, 2) := by decide +kernel
theorem dX11_spread_25 : decode cX11_spread 25 = .ok (.iconst 0, 1) := by decide +kernel
theorem dX11_spread_26 : decode cX11_spread 26 = .ok (.istore 11, 2) := by decide +kernel
theorem dX11_spread_28 : decode cX11_spread 28 = .ok (.iload 11, 2) := by decide +kernel
theorem dX11_spread_30 : decode cX11_spread 30 = .ok (.aload_n 0, 1) := by decide +kernel
theorem dX11_spread_31 : decode cX11_spread 31 = .ok (.getfield 115, 3) := by decide +kernel
theorem dX11_spread_34 : decode cX11_spread 34 = .ok (.if_icmp .ge 89, 3) := by decide +kernel
theorem dX11_spread_37 : decode cX11_spread 37 = .ok (.aload_n 0, 1) := by decide +kernel
theorem dX11_spread_38 : decode cX11_spread 38 = .ok (.getfield 19, 3) := by decide +kernel
theorem dX11_spread_41 : decode cX11_spread 41 = .ok (.iload 11, 2) := by decide +kernel
theorem dX11_spread_43 : decode cX11_spread 43 = .ok (.iaload, 1) := by decide +kernel
theorem dX11_spread_44 : decode cX11_spread 44 = .ok (.iload 6, 2) := by decide +kernel
theorem dX11_spread_46 : decode cX11_spread 46 = .ok (.invokestatic 69, 3) := by decide +kernel
theorem dX11_spread_49 : decode cX11_spread 49 = .ok (.i2l, 1) := by decide +kernel
theorem dX11_spread_50 : decode cX11_spread 50 = .ok (.lstore 12, 2) := by decide +kernel
theorem dX11_spread_52 : decode cX11_spread 52 = .ok (.lload 7, 2) := by decide +kernel
theorem dX11_spread_54 : decode cX11_spread 54 = .ok (.aload_n 0, 1) := by decide +kernel
theorem dX11_spread_55 : decode cX11_spread 55 = .ok (.getfield 43, 3) := by decide +kernel
theorem dX11_spread_58 : decode cX11_spread 58 = .ok (.iload 11, 2) := by decide +kernel
theorem dX11_spread_60 : decode cX11_spread 60 = .ok (.iaload, 1) := by decide +kernel
theorem dX11_spread_61 : decode cX11_spread 61 = .ok (.iload_n 1, 1) := by decide +kernel
theorem dX11_spread_62 : decode cX11_spread 62 = .ok (.if_icmp .ne 17, 3) := by decide +kernel
theorem dX11_spread_65 : decode cX11_spread 65 = .ok (.aload_n 0, 1) := by decide +kernel
theorem dX11_spread_66 : decode cX11_spread 66 = .ok (.getfield 22, 3) := by decide +kernel
theorem dX11_spread_69 : decode cX11_spread 69 = .ok (.iload 11, 2) := by decide +kernel
theorem dX11_spread_71 : decode cX11_spread 71 = .ok (.iaload, 1) := by decide +kernel
theorem dX11_spread_72 : decode cX11_spread 72 = .ok (.i2l, 1) := by decide +kernel
theorem dX11_spread_73 : decode cX11_spread 73 = .ok (.lload 12, 2) := by decide +kernel
theorem dX11_spread_75 : decode cX11_spread 75 = .ok (.lmul, 1) := by decide +kernel
theorem dX11_spread_76 : decode cX11_spread 76 = .ok (.goto 4, 3) := by decide +kernel
theorem dX11_spread_79 : decode cX11_spread 79 = .ok (.lconst 0, 1) := by decide +kernel
theorem dX11_spread_80 : decode cX11_spread 80 = .ok (.ladd, 1) := by decide +kernel
theorem dX11_spread_81 : decode cX11_spread 81 = .ok (.lstore 7, 2) := by decide +kernel
theorem dX11_spread_83 : decode cX11_spread 83 = .ok (.lload 9, 2) := by decide +kernel
theorem dX11_spread_85 : decode cX11_spread 85 = .ok (.aload_n 0, 1) := by decide +kernel
theorem dX11_spread_86 : decode cX11_spread 86 = .ok (.getfield 43, 3) := by decide +kernel
theorem dX11_spread_89 : decode cX11_spread 89 = .ok (.iload 11, 2) := by decide +kernel
theorem dX11_spread_91 : decode cX11_spread 91 = .ok (.iaload, 1) := by decide +kernel
theorem dX11_spread_92 : decode cX11_spread 92 = .ok (.iload_n 1, 1) := by decide +kernel
theorem dX11_spread_93 : decode cX11_spread 93 = .ok (.if_icmp .ne 20, 3) := by decide +kernel
theorem dX11_spread_96 : decode cX11_spread 96 = .ok (.aload_n 0, 1) := by decide +kernel
theorem dX11_spread_97 : decode cX11_spread 97 = .ok (.getfield 22, 3) := by decide +kernel
theorem dX11_spread_100 : decode cX11_spread 100 = .ok (.iload 11, 2) := by decide +kernel
theorem dX11_spread_102 : decode cX11_spread 102 = .ok (.iaload, 1) := by decide +kernel
theorem dX11_spread_103 : decode cX11_spread 103 = .ok (.i2l, 1) := by decide +kernel
theorem dX11_spread_104 : decode cX11_spread 104 = .ok (.lload 12, 2) := by decide +kernel
theorem dX11_spread_106 : decode cX11_spread 106 = .ok (.lmul, 1) := by decide +kernel
theorem dX11_spread_107 : decode cX11_spread 107 = .ok (.lload 12, 2) := by decide +kernel
theorem dX11_spread_109 : decode cX11_spread 109 = .ok (.lmul, 1) := by decide +kernel
theorem dX11_spread_110 : decode cX11_spread 110 = .ok (.goto 4, 3) := by decide +kernel
theorem dX11_spread_113 : decode cX11_spread 113 = .ok (.lconst 0, 1) := by decide +kernel
theorem dX11_spread_114 : decode cX11_spread 114 = .ok (.ladd, 1) := by decide +kernel
theorem dX11_spread_115 : decode cX11_spread 115 = .ok (.lstore 9, 2) := by decide +kernel
theorem dX11_spread_117 : decode cX11_spread 117 = .ok (.iinc 11 1, 3) := by decide +kernel
theorem dX11_spread_120 : decode cX11_spread 120 = .ok (.goto (-92), 3) := by decide +kernel
theorem dX11_spread_123 : decode cX11_spread 123 = .ok (.lload_n 2, 1) := by decide +kernel
theorem dX11_spread_124 : decode cX11_spread 124 = .ok (.lload 4, 2) := by decide +kernel
theorem dX11_spread_126 : decode cX11_spread 126 = .ok (.lload 9, 2) := by decide +kernel
theorem dX11_spread_128 : decode cX11_spread 128 = .ok (.lmul, 1) := by decide +kernel
theorem dX11_spread_129 : decode cX11_spread 129 = .ok (.lload 7, 2) := by decide +kernel
theorem dX11_spread_131 : decode cX11_spread 131 = .ok (.lload 7, 2) := by decide +kernel
theorem dX11_spread_133 : decode cX11_spread 133 = .ok (.lmul, 1) := by decide +kernel
theorem dX11_spread_134 : decode cX11_spread 134 = .ok (.lsub, 1) := by decide +kernel
theorem dX11_spread_135 : decode cX11_spread 135 = .ok (.ladd, 1) := by decide +kernel
theorem dX11_spread_136 : decode cX11_spread 136 = .ok (.lstore_n 2, 1) := by decide +kernel
theorem dX11_spread_137 : decode cX11_spread 137 = .ok (.iinc 6 1, 3) := by decide +kernel
theorem dX11_spread_140 : decode cX11_spread 140 = .ok (.goto (-127), 3) := by decide +kernel
theorem dX11_spread_143 : decode cX11_spread 143 = .ok (.lload_n 2, 1) := by decide +kernel
theorem dX11_spread_144 : decode cX11_spread 144 = .ok (.lreturn, 1) := by decide +kernel
theorem dX11_measure_0 : decode cX11_measure 0 = .ok (.iload_n 2, 1) := by decide +kernel
theorem dX11_measure_1 : decode cX11_measure 1 = .ok (.ifCond .ne 12, 3) := by decide +kernel
theorem dX11_measure_4 : decode cX11_measure 4 = .ok (.aload_n 0, 1) := by decide +kernel
theorem dX11_measure_5 : decode cX11_measure 5 = .ok (.iload_n 1, 1) := by decide +kernel
theorem dX11_measure_6 : decode cX11_measure 6 = .ok (.invokevirtual 174, 3) := by decide +kernel
theorem dX11_measure_9 : decode cX11_measure 9 = .ok (.i2l, 1) := by decide +kernel
theorem dX11_measure_10 : decode cX11_measure 10 = .ok (.goto 27, 3) := by decide +kernel
theorem dX11_measure_13 : decode cX11_measure 13 = .ok (.iload_n 2, 1) := by decide +kernel
theorem dX11_measure_14 : decode cX11_measure 14 = .ok (.iconst 1, 1) := by decide +kernel
theorem dX11_measure_15 : decode cX11_measure 15 = .ok (.if_icmp .ne 17, 3) := by decide +kernel
theorem dX11_measure_18 : decode cX11_measure 18 = .ok (.aload_n 0, 1) := by decide +kernel
theorem dX11_measure_19 : decode cX11_measure 19 = .ok (.iload_n 1, 1) := by decide +kernel
theorem dX11_measure_20 : decode cX11_measure 20 = .ok (.aload_n 0, 1) := by decide +kernel
theorem dX11_measure_21 : decode cX11_measure 21 = .ok (.iload_n 1, 1) := by decide +kernel
theorem dX11_measure_22 : decode cX11_measure 22 = .ok (.invokevirtual 177, 3) := by decide +kernel
theorem dX11_measure_25 : decode cX11_measure 25 = .ok (.invokevirtual 171, 3) := by decide +kernel
theorem dX11_measure_28 : decode cX11_measure 28 = .ok (.i2l, 1) := by decide +kernel
theorem dX11_measure_29 : decode cX11_measure 29 = .ok (.goto 8, 3) := by decide +kernel
theorem dX11_measure_32 : decode cX11_measure 32 = .ok (.aload_n 0, 1) := by decide +kernel
theorem dX11_measure_33 : decode cX11_measure 33 = .ok (.iload_n 1, 1) := by decide +kernel
theorem dX11_measure_34 : decode cX11_measure 34 = .ok (.invokevirtual 180, 3) := by decide +kernel
theorem dX11_measure_37 : decode cX11_measure 37 = .ok (.lreturn, 1) := by decide +kernel
theorem dX11_greatest_0 : decode cX11_greatest 0 = .ok (.iconst (-1), 1) := by decide +kernel
theorem dX11_greatest_1 : decode cX11_greatest 1 = .ok (.istore_n 2, 1) := by decide +kernel
theorem dX11_greatest_2 : decode cX11_greatest 2 = .ok (.iconst 0, 1) := by decide +kernel
theorem dX11_greatest_3 : decode cX11_greatest 3 = .ok (.istore_n 3, 1) := by decide +kernel
theorem dX11_greatest_4 : decode cX11_greatest 4 = .ok (.iload_n 3, 1) := by decide +kernel
theorem dX11_greatest_5 : decode cX11_greatest 5 = .ok (.aload_n 0, 1) := by decide +kernel
theorem dX11_greatest_6 : decode cX11_greatest 6 = .ok (.getfield 184, 3) := by decide +kernel
theorem dX11_greatest_9 : decode cX11_greatest 9 = .ok (.if_icmp .ge 57, 3) := by decide +kernel
theorem dX11_greatest_12 : decode cX11_greatest 12 = .ok (.aload_n 0, 1) := by decide +kernel
theorem dX11_greatest_13 : decode cX11_greatest 13 = .ok (.iload_n 3, 1) := by decide +kernel
theorem dX11_greatest_14 : decode cX11_greatest 14 = .ok (.invokevirtual 187, 3) := by decide +kernel
theorem dX11_greatest_17 : decode cX11_greatest 17 = .ok (.iconst 1, 1) := by decide +kernel
theorem dX11_greatest_18 : decode cX11_greatest 18 = .ok (.if_icmp .le 7, 3) := by decide +kernel
theorem dX11_greatest_21 : decode cX11_greatest 21 = .ok (.iconst 1, 1) := by decide +kernel
theorem dX11_greatest_22 : decode cX11_greatest 22 = .ok (.goto 4, 3) := by decide +kernel
theorem dX11_greatest_25 : decode cX11_greatest 25 = .ok (.iconst 0, 1) := by decide +kernel
theorem dX11_greatest_26 : decode cX11_greatest 26 = .ok (.istore 4, 2) := by decide +kernel
theorem dX11_greatest_28 : decode cX11_greatest 28 = .ok (.iload 4, 2) := by decide +kernel
theorem dX11_greatest_30 : decode cX11_greatest 30 = .ok (.ifCond .eq 28, 3) := by decide +kernel
theorem dX11_greatest_33 : decode cX11_greatest 33 = .ok (.iload_n 2, 1) := by decide +kernel
theorem dX11_greatest_34 : decode cX11_greatest 34 = .ok (.iconst (-1), 1) := by decide +kernel
theorem dX11_greatest_35 : decode cX11_greatest 35 = .ok (.if_icmp .eq 19, 3) := by decide +kernel
theorem dX11_greatest_38 : decode cX11_greatest 38 = .ok (.aload_n 0, 1) := by decide +kernel
theorem dX11_greatest_39 : decode cX11_greatest 39 = .ok (.iload_n 3, 1) := by decide +kernel
theorem dX11_greatest_40 : decode cX11_greatest 40 = .ok (.iload_n 1, 1) := by decide +kernel
theorem dX11_greatest_41 : decode cX11_greatest 41 = .ok (.invokevirtual 190, 3) := by decide +kernel
theorem dX11_greatest_44 : decode cX11_greatest 44 = .ok (.aload_n 0, 1) := by decide +kernel
theorem dX11_greatest_45 : decode cX11_greatest 45 = .ok (.iload_n 2, 1) := by decide +kernel
theorem dX11_greatest_46 : decode cX11_greatest 46 = .ok (.iload_n 1, 1) := by decide +kernel
theorem dX11_greatest_47 : decode cX11_greatest 47 = .ok (.invokevirtual 190, 3) := by decide +kernel
theorem dX11_greatest_50 : decode cX11_greatest 50 = .ok (.lcmp, 1) := by decide +kernel
theorem dX11_greatest_51 : decode cX11_greatest 51 = .ok (.ifCond .le 7, 3) := by decide +kernel
theorem dX11_greatest_54 : decode cX11_greatest 54 = .ok (.iload_n 3, 1) := by decide +kernel
theorem dX11_greatest_55 : decode cX11_greatest 55 = .ok (.goto 4, 3) := by decide +kernel
theorem dX11_greatest_58 : decode cX11_greatest 58 = .ok (.iload_n 2, 1) := by decide +kernel
theorem dX11_greatest_59 : decode cX11_greatest 59 = .ok (.istore_n 2, 1) := by decide +kernel
theorem dX11_greatest_60 : decode cX11_greatest 60 = .ok (.iinc 3 1, 3) := by decide +kernel
theorem dX11_greatest_63 : decode cX11_greatest 63 = .ok (.goto (-59), 3) := by decide +kernel
theorem dX11_greatest_66 : decode cX11_greatest 66 = .ok (.iload_n 2, 1) := by decide +kernel
theorem dX11_greatest_67 : decode cX11_greatest 67 = .ok (.ireturn, 1) := by decide +kernel
theorem dX11_before_0 : decode cX11_before 0 = .ok (.iconst 0, 1) := by decide +kernel
theorem dX11_before_1 : decode cX11_before 1 = .ok (.istore 4, 2) := by decide +kernel
theorem dX11_before_3 : decode cX11_before 3 = .ok (.iconst 0, 1) := by decide +kernel
theorem dX11_before_4 : decode cX11_before 4 = .ok (.istore 5, 2) := by decide +kernel
theorem dX11_before_6 : decode cX11_before 6 = .ok (.iload 5, 2) := by decide +kernel
theorem dX11_before_8 : decode cX11_before 8 = .ok (.aload_n 0, 1) := by decide +kernel
theorem dX11_before_9 : decode cX11_before 9 = .ok (.getfield 115, 3) := by decide +kernel
theorem dX11_before_12 : decode cX11_before 12 = .ok (.if_icmp .ge 80, 3) := by decide +kernel
theorem dX11_before_15 : decode cX11_before 15 = .ok (.aload_n 0, 1) := by decide +kernel
theorem dX11_before_16 : decode cX11_before 16 = .ok (.getfield 19, 3) := by decide +kernel
theorem dX11_before_19 : decode cX11_before 19 = .ok (.iload 5, 2) := by decide +kernel
theorem dX11_before_21 : decode cX11_before 21 = .ok (.iaload, 1) := by decide +kernel
theorem dX11_before_22 : decode cX11_before 22 = .ok (.iload_n 2, 1) := by decide +kernel
theorem dX11_before_23 : decode cX11_before 23 = .ok (.invokestatic 69, 3) := by decide +kernel
theorem dX11_before_26 : decode cX11_before 26 = .ok (.aload_n 0, 1) := by decide +kernel
theorem dX11_before_27 : decode cX11_before 27 = .ok (.getfield 19, 3) := by decide +kernel
theorem dX11_before_30 : decode cX11_before 30 = .ok (.iload_n 3, 1) := by decide +kernel
theorem dX11_before_31 : decode cX11_before 31 = .ok (.iaload, 1) := by decide +kernel
theorem dX11_before_32 : decode cX11_before 32 = .ok (.iload_n 2, 1) := by decide +kernel
theorem dX11_before_33 : decode cX11_before 33 = .ok (.invokestatic 69, 3) := by decide +kernel
theorem dX11_before_36 : decode cX11_before 36 = .ok (.isub, 1) := by decide +kernel
theorem dX11_before_37 : decode cX11_before 37 = .ok (.istore 6, 2) := by decide +kernel
theorem dX11_before_39 : decode cX11_before 39 = .ok (.iload 4, 2) := by decide +kernel
theorem dX11_before_41 : decode cX11_before 41 = .ok (.aload_n 0, 1) := by decide +kernel
theorem dX11_before_42 : decode cX11_before 42 = .ok (.getfield 43, 3) := by decide +kernel
theorem dX11_before_45 : decode cX11_before 45 = .ok (.iload 5, 2) := by decide +kernel
theorem dX11_before_47 : decode cX11_before 47 = .ok (.iaload, 1) := by decide +kernel
theorem dX11_before_48 : decode cX11_before 48 = .ok (.iload_n 1, 1) := by decide +kernel
theorem dX11_before_49 : decode cX11_before 49 = .ok (.if_icmp .ne 33, 3) := by decide +kernel
theorem dX11_before_52 : decode cX11_before 52 = .ok (.iload 6, 2) := by decide +kernel
theorem dX11_before_54 : decode cX11_before 54 = .ok (.ifCond .lt 24, 3) := by decide +kernel
theorem dX11_before_57 : decode cX11_before 57 = .ok (.iload 6, 2) := by decide +kernel
theorem dX11_before_59 : decode cX11_before 59 = .ok (.ifCond .ne 23, 3) := by decide +kernel
theorem dX11_before_62 : decode cX11_before 62 = .ok (.aload_n 0, 1) := by decide +kernel
theorem dX11_before_63 : decode cX11_before 63 = .ok (.getfield 19, 3) := by decide +kernel
theorem dX11_before_66 : decode cX11_before 66 = .ok (.iload 5, 2) := by decide +kernel
theorem dX11_before_68 : decode cX11_before 68 = .ok (.iaload, 1) := by decide +kernel
theorem dX11_before_69 : decode cX11_before 69 = .ok (.aload_n 0, 1) := by decide +kernel
theorem dX11_before_70 : decode cX11_before 70 = .ok (.getfield 19, 3) := by decide +kernel
theorem dX11_before_73 : decode cX11_before 73 = .ok (.iload_n 3, 1) := by decide +kernel
theorem dX11_before_74 : decode cX11_before 74 = .ok (.iaload, 1) := by decide +kernel
theorem dX11_before_75 : decode cX11_before 75 = .ok (.if_icmp .ge 7, 3) := by decide +kernel
theorem dX11_before_78 : decode cX11_before 78 = .ok (.iconst 1, 1) := by decide +kernel
theorem dX11_before_79 : decode cX11_before 79 = .ok (.goto 4, 3) := by decide +kernel
theorem dX11_before_82 : decode cX11_before 82 = .ok (.iconst 0, 1) := by decide +kernel
theorem dX11_before_83 : decode cX11_before 83 = .ok (.iadd, 1) := by decide +kernel
theorem dX11_before_84 : decode cX11_before 84 = .ok (.istore 4, 2) := by decide +kernel
theorem dX11_before_86 : decode cX11_before 86 = .ok (.iinc 5 1, 3) := by decide +kernel
theorem dX11_before_89 : decode cX11_before 89 = .ok (.goto (-83), 3) := by decide +kernel
theorem dX11_before_92 : decode cX11_before 92 = .ok (.iload 4, 2) := by decide +kernel
theorem dX11_before_94 : decode cX11_before 94 = .ok (.ireturn, 1) := by decide +kernel
theorem dX11_colorOfRank_0 : decode cX11_colorOfRank 0 = .ok (.iconst (-1), 1) := by decide +kernel
theorem dX11_colorOfRank_1 : decode cX11_colorOfRank 1 = .ok (.istore 4, 2) := by decide +kernel
theorem dX11_colorOfRank_3 : decode cX11_colorOfRank 3 = .ok (.iconst 0, 1) := by decide +kernel
theorem dX11_colorOfRank_4 : decode cX11_colorOfRank 4 = .ok (.istore 5, 2) := by decide +kernel
theorem dX11_colorOfRank_6 : decode cX11_colorOfRank 6 = .ok (.iload 5, 2) := by decide +kernel
theorem dX11_colorOfRank_8 : decode cX11_colorOfRank 8 = .ok (.aload_n 0, 1) := by decide +kernel
theorem dX11_colorOfRank_9 : decode cX11_colorOfRank 9 = .ok (.getfield 115, 3) := by decide +kernel
theorem dX11_colorOfRank_12 : decode cX11_colorOfRank 12 = .ok (.if_icmp .ge 41, 3) := by decide +kernel
theorem dX11_colorOfRank_15 : decode cX11_colorOfRank 15 = .ok (.aload_n 0, 1) := by decide +kernel
theorem dX11_colorOfRank_16 : decode cX11_colorOfRank 16 = .ok (.getfield 43, 3) := by decide +kernel
theorem dX11_colorOfRank_19 : decode cX11_colorOfRank 19 = .ok (.iload 5, 2) := by decide +kernel
theorem dX11_colorOfRank_21 : decode cX11_colorOfRank 21 = .ok (.iaload, 1) := by decide +kernel
theorem dX11_colorOfRank_22 : decode cX11_colorOfRank 22 = .ok (.iload_n 1, 1) := by decide +kernel
theorem dX11_colorOfRank_23 : decode cX11_colorOfRank 23 = .ok (.if_icmp .ne 20, 3) := by decide +kernel
theorem dX11_colorOfRank_26 : decode cX11_colorOfRank 26 = .ok (.aload_n 0, 1) := by decide +kernel
theorem dX11_colorOfRank_27 : decode cX11_colorOfRank 27 = .ok (.iload_n 1, 1) := by decide +kernel
theorem dX11_colorOfRank_28 : decode cX11_colorOfRank 28 = .ok (.iload_n 2, 1) := by decide +kernel
theorem dX11_colorOfRank_29 : decode cX11_colorOfRank 29 = .ok (.iload 5, 2) := by decide +kernel
theorem dX11_colorOfRank_31 : decode cX11_colorOfRank 31 = .ok (.invokevirtual 194, 3) := by decide +kernel
theorem dX11_colorOfRank_34 : decode cX11_colorOfRank 34 = .ok (.iload_n 3, 1) := by decide +kernel
theorem dX11_colorOfRank_35 : decode cX11_colorOfRank 35 = .ok (.if_icmp .ne 8, 3) := by decide +kernel
theorem dX11_colorOfRank_38 : decode cX11_colorOfRank 38 = .ok (.iload 5, 2) := by decide +kernel
theorem dX11_colorOfRank_40 : decode cX11_colorOfRank 40 = .ok (.goto 5, 3) := by decide +kernel
theorem dX11_colorOfRank_43 : decode cX11_colorOfRank 43 = .ok (.iload 4, 2) := by decide +kernel
theorem dX11_colorOfRank_45 : decode cX11_colorOfRank 45 = .ok (.istore 4, 2) := by decide +kernel
theorem dX11_colorOfRank_47 : decode cX11_colorOfRank 47 = .ok (.iinc 5 1, 3) := by decide +kernel
theorem dX11_colorOfRank_50 : decode cX11_colorOfRank 50 = .ok (.goto (-44), 3) := by decide +kernel
theorem dX11_colorOfRank_53 : decode cX11_colorOfRank 53 = .ok (.iload 4, 2) := by decide +kernel
theorem dX11_colorOfRank_55 : decode cX11_colorOfRank 55 = .ok (.ireturn, 1) := by decide +kernel
theorem dX11_splits_0 : decode cX11_splits 0 = .ok (.aload_n 0, 1) := by decide +kernel
theorem dX11_splits_1 : decode cX11_splits 1 = .ok (.iload_n 1, 1) := by decide +kernel
theorem dX11_splits_2 : decode cX11_splits 2 = .ok (.invokevirtual 177, 3) := by decide +kernel
theorem dX11_splits_5 : decode cX11_splits 5 = .ok (.istore_n 2, 1) := by decide +kernel
theorem dX11_splits_6 : decode cX11_splits 6 = .ok (.aload_n 0, 1) := by decide +kernel
theorem dX11_splits_7 : decode cX11_splits 7 = .ok (.iload_n 1, 1) := by decide +kernel
theorem dX11_splits_8 : decode cX11_splits 8 = .ok (.invokevirtual 187, 3) := by decide +kernel
theorem dX11_splits_11 : decode cX11_splits 11 = .ok (.istore_n 3, 1) := by decide +kernel
theorem dX11_splits_12 : decode cX11_splits 12 = .ok (.aload_n 0, 1) := by decide +kernel
theorem dX11_splits_13 : decode cX11_splits 13 = .ok (.iload_n 1, 1) := by decide +kernel
theorem dX11_splits_14 : decode cX11_splits 14 = .ok (.invokevirtual 174, 3) := by decide +kernel
theorem dX11_splits_17 : decode cX11_splits 17 = .ok (.istore 4, 2) := by decide +kernel
theorem dX11_splits_19 : decode cX11_splits 19 = .ok (.iconst 0, 1) := by decide +kernel
theorem dX11_splits_20 : decode cX11_splits 20 = .ok (.istore 5, 2) := by decide +kernel
theorem dX11_splits_22 : decode cX11_splits 22 = .ok (.iconst 0, 1) := by decide +kernel
theorem dX11_splits_23 : decode cX11_splits 23 = .ok (.istore 6, 2) := by decide +kernel
theorem dX11_splits_25 : decode cX11_splits 25 = .ok (.iconst 2, 1) := by decide +kernel
theorem dX11_splits_26 : decode cX11_splits 26 = .ok (.iload 6, 2) := by decide +kernel
theorem dX11_splits_28 : decode cX11_splits 28 = .ok (.imul, 1) := by decide +kernel
theorem dX11_splits_29 : decode cX11_splits 29 = .ok (.iload 4, 2) := by decide +kernel
theorem dX11_splits_31 : decode cX11_splits 31 = .ok (.if_icmp .ge 35, 3) := by decide +kernel
theorem dX11_splits_34 : decode cX11_splits 34 = .ok (.iload 5, 2) := by decide +kernel
theorem dX11_splits_36 : decode cX11_splits 36 = .ok (.iload_n 3, 1) := by decide +kernel
theorem dX11_splits_37 : decode cX11_splits 37 = .ok (.iconst 1, 1) := by decide +kernel
theorem dX11_splits_38 : decode cX11_splits 38 = .ok (.isub, 1) := by decide +kernel
theorem dX11_splits_39 : decode cX11_splits 39 = .ok (.if_icmp .ge 27, 3) := by decide +kernel
theorem dX11_splits_42 : decode cX11_splits 42 = .ok (.iload 6, 2) := by decide +kernel
theorem dX11_splits_44 : decode cX11_splits 44 = .ok (.aload_n 0, 1) := by decide +kernel
theorem dX11_splits_45 : decode cX11_splits 45 = .ok (.getfield 22, 3) := by decide +kernel
theorem dX11_splits_48 : decode cX11_splits 48 = .ok (.aload_n 0, 1) := by decide +kernel
theorem dX11_splits_49 : decode cX11_splits 49 = .ok (.iload_n 1, 1) := by decide +kernel
theorem dX11_splits_50 : decode cX11_splits 50 = .ok (.iload_n 2, 1) := by decide +kernel
theorem dX11_splits_51 : decode cX11_splits 51 = .ok (.iload 5, 2) := by decide +kernel
theorem dX11_splits_53 : decode cX11_splits 53 = .ok (.invokevirtual 198, 3) := by decide +kernel
theorem dX11_splits_56 : decode cX11_splits 56 = .ok (.iaload, 1) := by decide +kernel
theorem dX11_splits_57 : decode cX11_splits 57 = .ok (.iadd, 1) := by decide +kernel
theorem dX11_splits_58 : decode cX11_splits 58 = .ok (.istore 6, 2) := by decide +kernel
theorem dX11_splits_60 : decode cX11_splits 60 = .ok (.iinc 5 1, 3) := by decide +kernel
theorem dX11_splits_63 : decode cX11_splits 63 = .ok (.goto (-38), 3) := by decide +kernel
theorem dX11_splits_66 : decode cX11_splits 66 = .ok (.iload_n 3, 1) := by decide +kernel
theorem dX11_splits_67 : decode cX11_splits 67 = .ok (.iconst 1, 1) := by decide +kernel
theorem dX11_splits_68 : decode cX11_splits 68 = .ok (.isub, 1) := by decide +kernel
theorem dX11_splits_69 : decode cX11_splits 69 = .ok (.istore 7, 2) := by decide +kernel
theorem dX11_splits_71 : decode cX11_splits 71 = .ok (.iload 7, 2) := by decide +kernel
theorem dX11_splits_73 : decode cX11_splits 73 = .ok (.iload 5, 2) := by decide +kernel
theorem dX11_splits_75 : decode cX11_splits 75 = .ok (.if_icmp .lt 26, 3) := by decide +kernel
theorem dX11_splits_78 : decode cX11_splits 78 = .ok (.aload_n 0, 1) := by decide +kernel
theorem dX11_splits_79 : decode cX11_splits 79 = .ok (.getfield 43, 3) := by decide +kernel
theorem dX11_splits_82 : decode cX11_splits 82 = .ok (.aload_n 0, 1) := by decide +kernel
theorem dX11_splits_83 : decode cX11_splits 83 = .ok (.iload_n 1, 1) := by decide +kernel
theorem dX11_splits_84 : decode cX11_splits 84 = .ok (.iload_n 2, 1) := by decide +kernel
theorem dX11_splits_85 : decode cX11_splits 85 = .ok (.iload 7, 2) := by decide +kernel
theorem dX11_splits_87 : decode cX11_splits 87 = .ok (.invokevirtual 198, 3) := by decide +kernel
theorem dX11_splits_90 : decode cX11_splits 90 = .ok (.aload_n 0, 1) := by decide +kernel
theorem dX11_splits_91 : decode cX11_splits 91 = .ok (.getfield 184, 3) := by decide +kernel
theorem dX11_splits_94 : decode cX11_splits 94 = .ok (.iastore, 1) := by decide +kernel
theorem dX11_splits_95 : decode cX11_splits 95 = .ok (.iinc 7 (-1), 3) := by decide +kernel
theorem dX11_splits_98 : decode cX11_splits 98 = .ok (.goto (-27), 3) := by decide +kernel
theorem dX11_splits_101 : decode cX11_splits 101 = .ok (.aload_n 0, 1) := by decide +kernel
theorem dX11_splits_102 : decode cX11_splits 102 = .ok (.dup, 1) := by decide +kernel
theorem dX11_splits_103 : decode cX11_splits 103 = .ok (.getfield 184, 3) := by decide +kernel
theorem dX11_splits_106 : decode cX11_splits 106 = .ok (.iconst 1, 1) := by decide +kernel
theorem dX11_splits_107 : decode cX11_splits 107 = .ok (.iadd, 1) := by decide +kernel
theorem dX11_splits_108 : decode cX11_splits 108 = .ok (.putfield 184, 3) := by decide +kernel
theorem dX11_splits_111 : decode cX11_splits 111 = .ok (.return_, 1) := by decide +kernel
theorem dX11_meanOf_0 : decode cX11_meanOf 0 = .ok (.iconst 0, 1) := by decide +kernel
theorem dX11_meanOf_1 : decode cX11_meanOf 1 = .ok (.istore_n 2, 1) := by decide +kernel
theorem dX11_meanOf_2 : decode cX11_meanOf 2 = .ok (.aload_n 0, 1) := by decide +kernel
theorem dX11_meanOf_3 : decode cX11_meanOf 3 = .ok (.iload_n 1, 1) := by decide +kernel
theorem dX11_meanOf_4 : decode cX11_meanOf 4 = .ok (.invokevirtual 174, 3) := by decide +kernel
theorem dX11_meanOf_7 : decode cX11_meanOf 7 = .ok (.istore_n 3, 1) := by decide +kernel
theorem dX11_meanOf_8 : decode cX11_meanOf 8 = .ok (.iconst 0, 1) := by decide +kernel
theorem dX11_meanOf_9 : decode cX11_meanOf 9 = .ok (.istore 4, 2) := by decide +kernel
theorem dX11_meanOf_11 : decode cX11_meanOf 11 = .ok (.iload 4, 2) := by decide +kernel
theorem dX11_meanOf_13 : decode cX11_meanOf 13 = .ok (.iconst 3, 1) := by decide +kernel
theorem dX11_meanOf_14 : decode cX11_meanOf 14 = .ok (.if_icmp .ge 87, 3) := by decide +kernel
theorem dX11_meanOf_17 : decode cX11_meanOf 17 = .ok (.iconst 0, 1) := by decide +kernel
theorem dX11_meanOf_18 : decode cX11_meanOf 18 = .ok (.istore 5, 2) := by decide +kernel
theorem dX11_meanOf_20 : decode cX11_meanOf 20 = .ok (.iconst 0, 1) := by decide +kernel
theorem dX11_meanOf_21 : decode cX11_meanOf 21 = .ok (.istore 6, 2) := by decide +kernel
theorem dX11_meanOf_23 : decode cX11_meanOf 23 = .ok (.iload 6, 2) := by decide +kernel
theorem dX11_meanOf_25 : decode cX11_meanOf 25 = .ok (.aload_n 0, 1) := by decide +kernel
theorem dX11_meanOf_26 : decode cX11_meanOf 26 = .ok (.getfield 115, 3) := by decide +kernel
theorem dX11_meanOf_29 : decode cX11_meanOf 29 = .ok (.if_icmp .ge 49, 3) := by decide +kernel
theorem dX11_meanOf_32 : decode cX11_meanOf 32 = .ok (.iload 5, 2) := by decide +kernel
theorem dX11_meanOf_34 : decode cX11_meanOf 34 = .ok (.aload_n 0, 1) := by decide +kernel
theorem dX11_meanOf_35 : decode cX11_meanOf 35 = .ok (.getfield 43, 3) := by decide +kernel
theorem dX11_meanOf_38 : decode cX11_meanOf 38 = .ok (.iload 6, 2) := by decide +kernel
theorem dX11_meanOf_40 : decode cX11_meanOf 40 = .ok (.iaload, 1) := by decide +kernel
theorem dX11_meanOf_41 : decode cX11_meanOf 41 = .ok (.iload_n 1, 1) := by decide +kernel
theorem dX11_meanOf_42 : decode cX11_meanOf 42 = .ok (.if_icmp .ne 26, 3) := by decide +kernel
theorem dX11_meanOf_45 : decode cX11_meanOf 45 = .ok (.aload_n 0, 1) := by decide +kernel
theorem dX11_meanOf_46 : decode cX11_meanOf 46 = .ok (.getfield 22, 3) := by decide +kernel
theorem dX11_meanOf_49 : decode cX11_meanOf 49 = .ok (.iload 6, 2) := by decide +kernel
theorem dX11_meanOf_51 : decode cX11_meanOf 51 = .ok (.iaload, 1) := by decide +kernel
theorem dX11_meanOf_52 : decode cX11_meanOf 52 = .ok (.aload_n 0, 1) := by decide +kernel
theorem dX11_meanOf_53 : decode cX11_meanOf 53 = .ok (.getfield 19, 3) := by decide +kernel
theorem dX11_meanOf_56 : decode cX11_meanOf 56 = .ok (.iload 6, 2) := by decide +kernel
theorem dX11_meanOf_58 : decode cX11_meanOf 58 = .ok (.iaload, 1) := by decide +kernel
theorem dX11_meanOf_59 : decode cX11_meanOf 59 = .ok (.iload 4, 2) := by decide +kernel
theorem dX11_meanOf_61 : decode cX11_meanOf 61 = .ok (.invokestatic 69, 3) := by decide +kernel
theorem dX11_meanOf_64 : decode cX11_meanOf 64 = .ok (.imul, 1) := by decide +kernel
theorem dX11_meanOf_65 : decode cX11_meanOf 65 = .ok (.goto 4, 3) := by decide +kernel
theorem dX11_meanOf_68 : decode cX11_meanOf 68 = .ok (.iconst 0, 1) := by decide +kernel
theorem dX11_meanOf_69 : decode cX11_meanOf 69 = .ok (.iadd, 1) := by decide +kernel
theorem dX11_meanOf_70 : decode cX11_meanOf 70 = .ok (.istore 5, 2) := by decide +kernel
theorem dX11_meanOf_72 : decode cX11_meanOf 72 = .ok (.iinc 6 1, 3) := by decide +kernel
theorem dX11_meanOf_75 : decode cX11_meanOf 75 = .ok (.goto (-52), 3) := by decide +kernel
theorem dX11_meanOf_78 : decode cX11_meanOf 78 = .ok (.sipush 256, 3) := by decide +kernel
theorem dX11_meanOf_81 : decode cX11_meanOf 81 = .ok (.iload_n 2, 1) := by decide +kernel
theorem dX11_meanOf_82 : decode cX11_meanOf 82 = .ok (.imul, 1) := by decide +kernel
theorem dX11_meanOf_83 : decode cX11_meanOf 83 = .ok (.iconst 2, 1) := by decide +kernel
theorem dX11_meanOf_84 : decode cX11_meanOf 84 = .ok (.iload 5, 2) := by decide +kernel
theorem dX11_meanOf_86 : decode cX11_meanOf 86 = .ok (.imul, 1) := by decide +kernel
theorem dX11_meanOf_87 : decode cX11_meanOf 87 = .ok (.iload_n 3, 1) := by decide +kernel
theorem dX11_meanOf_88 : decode cX11_meanOf 88 = .ok (.iadd, 1) := by decide +kernel
theorem dX11_meanOf_89 : decode cX11_meanOf 89 = .ok (.iconst 2, 1) := by decide +kernel
theorem dX11_meanOf_90 : decode cX11_meanOf 90 = .ok (.iload_n 3, 1) := by decide +kernel
theorem dX11_meanOf_91 : decode cX11_meanOf 91 = .ok (.imul, 1) := by decide +kernel
theorem dX11_meanOf_92 : decode cX11_meanOf 92 = .ok (.idiv, 1) := by decide +kernel
theorem dX11_meanOf_93 : decode cX11_meanOf 93 = .ok (.iadd, 1) := by decide +kernel
theorem dX11_meanOf_94 : decode cX11_meanOf 94 = .ok (.istore_n 2, 1) := by decide +kernel
theorem dX11_meanOf_95 : decode cX11_meanOf 95 = .ok (.iinc 4 1, 3) := by decide +kernel
theorem dX11_meanOf_98 : decode cX11_meanOf 98 = .ok (.goto (-87), 3) := by decide +kernel
theorem dX11_meanOf_101 : decode cX11_meanOf 101 = .ok (.iload_n 2, 1) := by decide +kernel
theorem dX11_meanOf_102 : decode cX11_meanOf 102 = .ok (.ireturn, 1) := by decide +kernel
theorem dX11_locked_0 : decode cX11_locked 0 = .ok (.iconst 0, 1) := by decide +kernel
theorem dX11_locked_1 : decode cX11_locked 1 = .ok (.istore_n 1, 1) := by decide +kernel
theorem dX11_locked_2 : decode cX11_locked 2 = .ok (.iconst 0, 1) := by decide +kernel
theorem dX11_locked_3 : decode cX11_locked 3 = .ok (.istore_n 2, 1) := by decide +kernel
theorem dX11_locked_4 : decode cX11_locked 4 = .ok (.iload_n 2, 1) := by decide +kernel
theorem dX11_locked_5 : decode cX11_locked 5 = .ok (.aload_n 0, 1) := by decide +kernel
theorem dX11_locked_6 : decode cX11_locked 6 = .ok (.getfield 7, 3) := by decide +kernel
theorem dX11_locked_9 : decode cX11_locked 9 = .ok (.sipush 258, 3) := by decide +kernel
theorem dX11_locked_12 : decode cX11_locked 12 = .ok (.iaload, 1) := by decide +kernel
theorem dX11_locked_13 : decode cX11_locked 13 = .ok (.if_icmp .ge 22, 3) := by decide +kernel
theorem dX11_locked_16 : decode cX11_locked 16 = .ok (.iload_n 1, 1) := by decide +kernel
theorem dX11_locked_17 : decode cX11_locked 17 = .ok (.aload_n 0, 1) := by decide +kernel
theorem dX11_locked_18 : decode cX11_locked 18 = .ok (.getfield 7, 3) := by decide +kernel
theorem dX11_locked_21 : decode cX11_locked 21 = .ok (.sipush 275, 3) := by decide +kernel
theorem dX11_locked_24 : decode cX11_locked 24 = .ok (.iload_n 2, 1) := by decide +kernel
theorem dX11_locked_25 : decode cX11_locked 25 = .ok (.iadd, 1) := by decide +kernel
theorem dX11_locked_26 : decode cX11_locked 26 = .ok (.iaload, 1) := by decide +kernel
theorem dX11_locked_27 : decode cX11_locked 27 = .ok (.iadd, 1) := by decide +kernel
theorem dX11_locked_28 : decode cX11_locked 28 = .ok (.istore_n 1, 1) := by decide +kernel
theorem dX11_locked_29 : decode cX11_locked 29 = .ok (.iinc 2 1, 3) := by decide +kernel
theorem dX11_locked_32 : decode cX11_locked 32 = .ok (.goto (-28), 3) := by decide +kernel
theorem dX11_locked_35 : decode cX11_locked 35 = .ok (.iload_n 1, 1) := by decide +kernel
theorem dX11_locked_36 : decode cX11_locked 36 = .ok (.ireturn, 1) := by decide +kernel
theorem dX11_build_0 : decode cX11_build 0 = .ok (.iload_n 1, 1) := by decide +kernel
theorem dX11_build_1 : decode cX11_build 1 = .ok (.iconst 1, 1) := by decide +kernel
theorem dX11_build_2 : decode cX11_build 2 = .ok (.bipush 16, 2) := by decide +kernel
theorem dX11_build_4 : decode cX11_build 4 = .ok (.invokestatic 57, 3) := by decide +kernel
theorem dX11_build_7 : decode cX11_build 7 = .ok (.ifCond .eq 12, 3) := by decide +kernel
theorem dX11_build_10 : decode cX11_build 10 = .ok (.iload_n 2, 1) := by decide +kernel
theorem dX11_build_11 : decode cX11_build 11 = .ok (.iconst 0, 1) := by decide +kernel
theorem dX11_build_12 : decode cX11_build 12 = .ok (.iconst 2, 1) := by decide +kernel
theorem dX11_build_13 : decode cX11_build 13 = .ok (.invokestatic 57, 3) := by decide +kernel
theorem dX11_build_16 : decode cX11_build 16 = .ok (.ifCond .ne 6, 3) := by decide +kernel
theorem dX11_build_19 : decode cX11_build 19 = .ok (.bipush (-2), 2) := by decide +kernel
theorem dX11_build_21 : decode cX11_build 21 = .ok (.ireturn, 1) := by decide +kernel
theorem dX11_build_22 : decode cX11_build 22 = .ok (.aload_n 0, 1) := by decide +kernel
theorem dX11_build_23 : decode cX11_build 23 = .ok (.invokevirtual 201, 3) := by decide +kernel
theorem dX11_build_26 : decode cX11_build 26 = .ok (.iload_n 1, 1) := by decide +kernel
theorem dX11_build_27 : decode cX11_build 27 = .ok (.if_icmp .le 6, 3) := by decide +kernel
theorem dX11_build_30 : decode cX11_build 30 = .ok (.bipush (-3), 2) := by decide +kernel
theorem dX11_build_32 : decode cX11_build 32 = .ok (.ireturn, 1) := by decide +kernel
theorem dX11_build_33 : decode cX11_build 33 = .ok (.aload_n 0, 1) := by decide +kernel
theorem dX11_build_34 : decode cX11_build 34 = .ok (.iconst 1, 1) := by decide +kernel
theorem dX11_build_35 : decode cX11_build 35 = .ok (.invokevirtual 83, 3) := by decide +kernel
theorem dX11_build_38 : decode cX11_build 38 = .ok (.aload_n 0, 1) := by decide +kernel
theorem dX11_build_39 : decode cX11_build 39 = .ok (.getfield 7, 3) := by decide +kernel
theorem dX11_build_42 : decode cX11_build 42 = .ok (.sipush 258, 3) := by decide +kernel
theorem dX11_build_45 : decode cX11_build 45 = .ok (.iaload, 1) := by decide +kernel
theorem dX11_build_46 : decode cX11_build 46 = .ok (.iconst 1, 1) := by decide +kernel
theorem dX11_build_47 : decode cX11_build 47 = .ok (.isub, 1) := by decide +kernel
theorem dX11_build_48 : decode cX11_build 48 = .ok (.istore_n 3, 1) := by decide +kernel
theorem dX11_build_49 : decode cX11_build 49 = .ok (.iload_n 3, 1) := by decide +kernel
theorem dX11_build_50 : decode cX11_build 50 = .ok (.ifCond .lt 22, 3) := by decide +kernel
theorem dX11_build_53 : decode cX11_build 53 = .ok (.aload_n 0, 1) := by decide +kernel
theorem dX11_build_54 : decode cX11_build 54 = .ok (.iload_n 3, 1) := by decide +kernel
theorem dX11_build_55 : decode cX11_build 55 = .ok (.invokevirtual 124, 3) := by decide +kernel
theorem dX11_build_58 : decode cX11_build 58 = .ok (.ifCond .ne 8, 3) := by decide +kernel
theorem dX11_build_61 : decode cX11_build 61 = .ok (.aload_n 0, 1) := by decide +kernel
theorem dX11_build_62 : decode cX11_build 62 = .ok (.iload_n 3, 1) := by decide +kernel
theorem dX11_build_63 : decode cX11_build 63 = .ok (.invokevirtual 139, 3) := by decide +kernel
theorem dX11_build_66 : decode cX11_build 66 = .ok (.iinc 3 (-1), 3) := by decide +kernel
theorem dX11_build_69 : decode cX11_build 69 = .ok (.goto (-20), 3) := by decide +kernel
theorem dX11_build_72 : decode cX11_build 72 = .ok (.iload_n 1, 1) := by decide +kernel
theorem dX11_build_73 : decode cX11_build 73 = .ok (.aload_n 0, 1) := by decide +kernel
theorem dX11_build_74 : decode cX11_build 74 = .ok (.getfield 7, 3) := by decide +kernel
theorem dX11_build_77 : decode cX11_build 77 = .ok (.sipush 258, 3) := by decide +kernel
theorem dX11_build_80 : decode cX11_build 80 = .ok (.iaload, 1) := by decide +kernel
theorem dX11_build_81 : decode cX11_build 81 = .ok (.isub, 1) := by decide +kernel
theorem dX11_build_82 : decode cX11_build 82 = .ok (.istore_n 3, 1) := by decide +kernel
theorem dX11_build_83 : decode cX11_build 83 = .ok (.aload_n 0, 1) := by decide +kernel
theorem dX11_build_84 : decode cX11_build 84 = .ok (.iconst 1, 1) := by decide +kernel
theorem dX11_build_85 : decode cX11_build 85 = .ok (.invokevirtual 127, 3) := by decide +kernel
theorem dX11_build_88 : decode cX11_build 88 = .ok (.aload_n 0, 1) := by decide +kernel
theorem dX11_build_89 : decode cX11_build 89 = .ok (.aload_n 0, 1) := by decide +kernel
theorem dX11_build_90 : decode cX11_build 90 = .ok (.getfield 115, 3) := by decide +kernel
theorem dX11_build_93 : decode cX11_build 93 = .ok (.ifCond .le 11, 3) := by decide +kernel
theorem dX11_build_96 : decode cX11_build 96 = .ok (.iload_n 3, 1) := by decide +kernel
theorem dX11_build_97 : decode cX11_build 97 = .ok (.ifCond .le 7, 3) := by decide +kernel
theorem dX11_build_100 : decode cX11_build 100 = .ok (.iconst 1, 1) := by decide +kernel
theorem dX11_build_101 : decode cX11_build 101 = .ok (.goto 4, 3) := by decide +kernel
theorem dX11_build_104 : decode cX11_build 104 = .ok (.iconst 0, 1) := by decide +kernel
theorem dX11_build_105 : decode cX11_build 105 = .ok (.putfield 184, 3) := by decide +kernel
theorem dX11_build_108 : decode cX11_build 108 = .ok (.iconst 0, 1) := by decide +kernel
theorem dX11_build_109 : decode cX11_build 109 = .ok (.istore 4, 2) := by decide +kernel
theorem dX11_build_111 : decode cX11_build 111 = .ok (.iload 4, 2) := by decide +kernel
theorem dX11_build_113 : decode cX11_build 113 = .ok (.aload_n 0, 1) := by decide +kernel
theorem dX11_build_114 : decode cX11_build 114 = .ok (.getfield 115, 3) := by decide +kernel
theorem dX11_build_117 : decode cX11_build 117 = .ok (.if_icmp .ge 17, 3) := by decide +kernel
theorem dX11_build_120 : decode cX11_build 120 = .ok (.aload_n 0, 1) := by decide +kernel
theorem dX11_build_121 : decode cX11_build 121 = .ok (.getfield 43, 3) := by decide +kernel
theorem dX11_build_124 : decode cX11_build 124 = .ok (.iload 4, 2) := by decide +kernel
theorem dX11_build_126 : decode cX11_build 126 = .ok (.iconst 0, 1) := by decide +kernel
theorem dX11_build_127 : decode cX11_build 127 = .ok (.iastore, 1) := by decide +kernel
theorem dX11_build_128 : decode cX11_build 128 = .ok (.iinc 4 1, 3) := by decide +kernel
theorem dX11_build_131 : decode cX11_build 131 = .ok (.goto (-20), 3) := by decide +kernel
theorem dX11_build_134 : decode cX11_build 134 = .ok (.aload_n 0, 1) := by decide +kernel
theorem dX11_build_135 : decode cX11_build 135 = .ok (.getfield 184, 3) := by decide +kernel
theorem dX11_build_138 : decode cX11_build 138 = .ok (.ifCond .le 32, 3) := by decide +kernel
theorem dX11_build_141 : decode cX11_build 141 = .ok (.aload_n 0, 1) := by decide +kernel
theorem dX11_build_142 : decode cX11_build 142 = .ok (.getfield 184, 3) := by decide +kernel
theorem dX11_build_145 : decode cX11_build 145 = .ok (.iload_n 3, 1) := by decide +kernel
theorem dX11_build_146 : decode cX11_build 146 = .ok (.if_icmp .ge 24, 3) := by decide +kernel
theorem dX11_build_149 : decode cX11_build 149 = .ok (.aload_n 0, 1) := by decide +kernel
theorem dX11_build_150 : decode cX11_build 150 = .ok (.iload_n 2, 1) := by decide +kernel
theorem dX11_build_151 : decode cX11_build 151 = .ok (.invokevirtual 204, 3) := by decide +kernel
theorem dX11_build_154 : decode cX11_build 154 = .ok (.iconst (-1), 1) := by decide +kernel
theorem dX11_build_155 : decode cX11_build 155 = .ok (.if_icmp .eq 15, 3) := by decide +kernel
theorem dX11_build_158 : decode cX11_build 158 = .ok (.aload_n 0, 1) := by decide +kernel
theorem dX11_build_159 : decode cX11_build 159 = .ok (.aload_n 0, 1) := by decide +kernel
theorem dX11_build_160 : decode cX11_build 160 = .ok (.iload_n 2, 1) := by decide +kernel
theorem dX11_build_161 : decode cX11_build 161 = .ok (.invokevirtual 204, 3) := by decide +kernel
theorem dX11_build_164 : decode cX11_build 164 = .ok (.invokevirtual 207, 3) := by decide +kernel
theorem dX11_build_167 : decode cX11_build 167 = .ok (.goto (-33), 3) := by decide +kernel
theorem dX11_build_170 : decode cX11_build 170 = .ok (.aload_n 0, 1) := by decide +kernel
theorem dX11_build_171 : decode cX11_build 171 = .ok (.getfield 7, 3) := by decide +kernel
theorem dX11_build_174 : decode cX11_build 174 = .ok (.sipush 258, 3) := by decide +kernel
theorem dX11_build_177 : decode cX11_build 177 = .ok (.iaload, 1) := by decide +kernel
theorem dX11_build_178 : decode cX11_build 178 = .ok (.istore 4, 2) := by decide +kernel
theorem dX11_build_180 : decode cX11_build 180 = .ok (.iconst 0, 1) := by decide +kernel
theorem dX11_build_181 : decode cX11_build 181 = .ok (.istore 5, 2) := by decide +kernel
theorem dX11_build_183 : decode cX11_build 183 = .ok (.iload 5, 2) := by decide +kernel
theorem dX11_build_185 : decode cX11_build 185 = .ok (.aload_n 0, 1) := by decide +kernel
theorem dX11_build_186 : decode cX11_build 186 = .ok (.getfield 184, 3) := by decide +kernel
theorem dX11_build_189 : decode cX11_build 189 = .ok (.if_icmp .ge 22, 3) := by decide +kernel
theorem dX11_build_192 : decode cX11_build 192 = .ok (.aload_n 0, 1) := by decide +kernel
theorem dX11_build_193 : decode cX11_build 193 = .ok (.aload_n 0, 1) := by decide +kernel
theorem dX11_build_194 : decode cX11_build 194 = .ok (.iload 5, 2) := by decide +kernel
theorem dX11_build_196 : decode cX11_build 196 = .ok (.invokevirtual 210, 3) := by decide +kernel
theorem dX11_build_199 : decode cX11_build 199 = .ok (.iconst 0, 1) := by decide +kernel
theorem dX11_build_200 : decode cX11_build 200 = .ok (.invokevirtual 133, 3) := by decide +kernel
theorem dX11_build_203 : decode cX11_build 203 = .ok (.istore 4, 2) := by decide +kernel
theorem dX11_build_205 : decode cX11_build 205 = .ok (.iinc 5 1, 3) := by decide +kernel
theorem dX11_build_208 : decode cX11_build 208 = .ok (.goto (-25), 3) := by decide +kernel
theorem dX11_build_211 : decode cX11_build 211 = .ok (.iload 4, 2) := by decide +kernel
theorem dX11_build_213 : decode cX11_build 213 = .ok (.ifCond .ge 8, 3) := by decide +kernel
theorem dX11_build_216 : decode cX11_build 216 = .ok (.bipush (-2), 2) := by decide +kernel
theorem dX11_build_218 : decode cX11_build 218 = .ok (.goto 11, 3) := by decide +kernel
theorem dX11_build_221 : decode cX11_build 221 = .ok (.aload_n 0, 1) := by decide +kernel
theorem dX11_build_222 : decode cX11_build 222 = .ok (.getfield 7, 3) := by decide +kernel
theorem dX11_build_225 : decode cX11_build 225 = .ok (.sipush 258, 3) := by decide +kernel
theorem dX11_build_228 : decode cX11_build 228 = .ok (.iaload, 1) := by decide +kernel
theorem dX11_build_229 : decode cX11_build 229 = .ok (.ireturn, 1) := by decide +kernel
theorem dX11_rounds_0 : decode cX11_rounds 0 = .ok (.aload_n 0, 1) := by decide +kernel
theorem dX11_rounds_1 : decode cX11_rounds 1 = .ok (.invokevirtual 149, 3) := by decide +kernel
theorem dX11_rounds_4 : decode cX11_rounds 4 = .ok (.iconst 0, 1) := by decide +kernel
theorem dX11_rounds_5 : decode cX11_rounds 5 = .ok (.istore_n 1, 1) := by decide +kernel
theorem dX11_rounds_6 : decode cX11_rounds 6 = .ok (.iload_n 1, 1) := by decide +kernel
theorem dX11_rounds_7 : decode cX11_rounds 7 = .ok (.bipush 48, 2) := by decide +kernel
theorem dX11_rounds_9 : decode cX11_rounds 9 = .ok (.if_icmp .ge 16, 3) := by decide +kernel
theorem dX11_rounds_12 : decode cX11_rounds 12 = .ok (.aload_n 0, 1) := by decide +kernel
theorem dX11_rounds_13 : decode cX11_rounds 13 = .ok (.getfield 46, 3) := by decide +kernel
theorem dX11_rounds_16 : decode cX11_rounds 16 = .ok (.iload_n 1, 1) := by decide +kernel
theorem dX11_rounds_17 : decode cX11_rounds 17 = .ok (.iconst 0, 1) := by decide +kernel
theorem dX11_rounds_18 : decode cX11_rounds 18 = .ok (.iastore, 1) := by decide +kernel
theorem dX11_rounds_19 : decode cX11_rounds 19 = .ok (.iinc 1 1, 3) := by decide +kernel
theorem dX11_rounds_22 : decode cX11_rounds 22 = .ok (.goto (-16), 3) := by decide +kernel
theorem dX11_rounds_25 : decode cX11_rounds 25 = .ok (.iconst 0, 1) := by decide +kernel
theorem dX11_rounds_26 : decode cX11_rounds 26 = .ok (.istore_n 1, 1) := by decide +kernel
theorem dX11_rounds_27 : decode cX11_rounds 27 = .ok (.iload_n 1, 1) := by decide +kernel
theorem dX11_rounds_28 : decode cX11_rounds 28 = .ok (.aload_n 0, 1) := by decide +kernel
theorem dX11_rounds_29 : decode cX11_rounds 29 = .ok (.invokevirtual 61, 3) := by decide +kernel
theorem dX11_rounds_32 : decode cX11_rounds 32 = .ok (.if_icmp .ge 77, 3) := by decide +kernel
theorem dX11_rounds_35 : decode cX11_rounds 35 = .ok (.aload_n 0, 1) := by decide +kernel
theorem dX11_rounds_36 : decode cX11_rounds 36 = .ok (.iload_n 1, 1) := by decide +kernel
theorem dX11_rounds_37 : decode cX11_rounds 37 = .ok (.invokevirtual 65, 3) := by decide +kernel
theorem dX11_rounds_40 : decode cX11_rounds 40 = .ok (.ifCond .eq 18, 3) := by decide +kernel
theorem dX11_rounds_43 : decode cX11_rounds 43 = .ok (.aload_n 0, 1) := by decide +kernel
theorem dX11_rounds_44 : decode cX11_rounds 44 = .ok (.aload_n 0, 1) := by decide +kernel
theorem dX11_rounds_45 : decode cX11_rounds 45 = .ok (.getfield 7, 3) := by decide +kernel
theorem dX11_rounds_48 : decode cX11_rounds 48 = .ok (.iconst 2, 1) := by decide +kernel
theorem dX11_rounds_49 : decode cX11_rounds 49 = .ok (.iload_n 1, 1) := by decide +kernel
theorem dX11_rounds_50 : decode cX11_rounds 50 = .ok (.iadd, 1) := by decide +kernel
theorem dX11_rounds_51 : decode cX11_rounds 51 = .ok (.iaload, 1) := by decide +kernel
theorem dX11_rounds_52 : decode cX11_rounds 52 = .ok (.invokevirtual 146, 3) := by decide +kernel
theorem dX11_rounds_55 : decode cX11_rounds 55 = .ok (.goto 4, 3) := by decide +kernel
theorem dX11_rounds_58 : decode cX11_rounds 58 = .ok (.iconst (-1), 1) := by decide +kernel
theorem dX11_rounds_59 : decode cX11_rounds 59 = .ok (.istore_n 2, 1) := by decide +kernel
theorem dX11_rounds_60 : decode cX11_rounds 60 = .ok (.iconst 0, 1) := by decide +kernel
theorem dX11_rounds_61 : decode cX11_rounds 61 = .ok (.istore_n 3, 1) := by decide +kernel
theorem dX11_rounds_62 : decode cX11_rounds 62 = .ok (.iload_n 3, 1) := by decide +kernel
theorem dX11_rounds_63 : decode cX11_rounds 63 = .ok (.iconst 3, 1) := by decide +kernel
theorem dX11_rounds_64 : decode cX11_rounds 64 = .ok (.if_icmp .ge 39, 3) := by decide +kernel
theorem dX11_rounds_67 : decode cX11_rounds 67 = .ok (.iload_n 2, 1) := by decide +kernel
theorem dX11_rounds_68 : decode cX11_rounds 68 = .ok (.iconst (-1), 1) := by decide +kernel
theorem dX11_rounds_69 : decode cX11_rounds 69 = .ok (.if_icmp .eq 34, 3) := by decide +kernel
theorem dX11_rounds_72 : decode cX11_rounds 72 = .ok (.aload_n 0, 1) := by decide +kernel
theorem dX11_rounds_73 : decode cX11_rounds 73 = .ok (.getfield 46, 3) := by decide +kernel
theorem dX11_rounds_76 : decode cX11_rounds 76 = .ok (.iconst 3, 1) := by decide +kernel
theorem dX11_rounds_77 : decode cX11_rounds 77 = .ok (.iload_n 2, 1) := by decide +kernel
theorem dX11_rounds_78 : decode cX11_rounds 78 = .ok (.imul, 1) := by decide +kernel
theorem dX11_rounds_79 : decode cX11_rounds 79 = .ok (.iload_n 3, 1) := by decide +kernel
theorem dX11_rounds_80 : decode cX11_rounds 80 = .ok (.iadd, 1) := by decide +kernel
theorem dX11_rounds_81 : decode cX11_rounds 81 = .ok (.dup2, 1) := by decide +kernel
theorem dX11_rounds_82 : decode cX11_rounds 82 = .ok (.iaload, 1) := by decide +kernel
theorem dX11_rounds_83 : decode cX11_rounds 83 = .ok (.aload_n 0, 1) := by decide +kernel
theorem dX11_rounds_84 : decode cX11_rounds 84 = .ok (.getfield 7, 3) := by decide +kernel
theorem dX11_rounds_87 : decode cX11_rounds 87 = .ok (.iconst 2, 1) := by decide +kernel
theorem dX11_rounds_88 : decode cX11_rounds 88 = .ok (.iload_n 1, 1) := by decide +kernel
theorem dX11_rounds_89 : decode cX11_rounds 89 = .ok (.iadd, 1) := by decide +kernel
theorem dX11_rounds_90 : decode cX11_rounds 90 = .ok (.iaload, 1) := by decide +kernel
theorem dX11_rounds_91 : decode cX11_rounds 91 = .ok (.iload_n 3, 1) := by decide +kernel
theorem dX11_rounds_92 : decode cX11_rounds 92 = .ok (.invokestatic 69, 3) := by decide +kernel
theorem dX11_rounds_95 : decode cX11_rounds 95 = .ok (.iadd, 1) := by decide +kernel
theorem dX11_rounds_96 : decode cX11_rounds 96 = .ok (.iastore, 1) := by decide +kernel
theorem dX11_rounds_97 : decode cX11_rounds 97 = .ok (.iinc 3 1, 3) := by decide +kernel
theorem dX11_rounds_100 : decode cX11_rounds 100 = .ok (.goto (-38), 3) := by decide +kernel
theorem dX11_rounds_103 : decode cX11_rounds 103 = .ok (.iinc 1 1, 3) := by decide +kernel
theorem dX11_rounds_106 : decode cX11_rounds 106 = .ok (.goto (-79), 3) := by decide +kernel
theorem dX11_rounds_109 : decode cX11_rounds 109 = .ok (.iconst 0, 1) := by decide +kernel
theorem dX11_rounds_110 : decode cX11_rounds 110 = .ok (.istore_n 1, 1) := by decide +kernel
theorem dX11_rounds_111 : decode cX11_rounds 111 = .ok (.iconst 0, 1) := by decide +kernel
theorem dX11_rounds_112 : decode cX11_rounds 112 = .ok (.istore_n 2, 1) := by decide +kernel
theorem dX11_rounds_113 : decode cX11_rounds 113 = .ok (.iload_n 2, 1) := by decide +kernel
theorem dX11_rounds_114 : decode cX11_rounds 114 = .ok (.aload_n 0, 1) := by decide +kernel
theorem dX11_rounds_115 : decode cX11_rounds 115 = .ok (.getfield 7, 3) := by decide +kernel
theorem dX11_rounds_118 : decode cX11_rounds 118 = .ok (.sipush 258, 3) := by decide +kernel
theorem dX11_rounds_121 : decode cX11_rounds 121 = .ok (.iaload, 1) := by decide +kernel
theorem dX11_rounds_122 : decode cX11_rounds 122 = .ok (.if_icmp .ge 114, 3) := by decide +kernel
theorem dX11_rounds_125 : decode cX11_rounds 125 = .ok (.aload_n 0, 1) := by decide +kernel
theorem dX11_rounds_126 : decode cX11_rounds 126 = .ok (.iload_n 2, 1) := by decide +kernel
theorem dX11_rounds_127 : decode cX11_rounds 127 = .ok (.invokevirtual 124, 3) := by decide +kernel
theorem dX11_rounds_130 : decode cX11_rounds 130 = .ok (.ifCond .ne 100, 3) := by decide +kernel
theorem dX11_rounds_133 : decode cX11_rounds 133 = .ok (.aload_n 0, 1) := by decide +kernel
theorem dX11_rounds_134 : decode cX11_rounds 134 = .ok (.getfield 34, 3) := by decide +kernel
theorem dX11_rounds_137 : decode cX11_rounds 137 = .ok (.iload_n 2, 1) := by decide +kernel
theorem dX11_rounds_138 : decode cX11_rounds 138 = .ok (.iaload, 1) := by decide +kernel
theorem dX11_rounds_139 : decode cX11_rounds 139 = .ok (.ifCond .le 91, 3) := by decide +kernel
theorem dX11_rounds_142 : decode cX11_rounds 142 = .ok (.iconst 0, 1) := by decide +kernel
theorem dX11_rounds_143 : decode cX11_rounds 143 = .ok (.istore_n 3, 1) := by decide +kernel
theorem dX11_rounds_144 : decode cX11_rounds 144 = .ok (.iconst 0, 1) := by decide +kernel
theorem dX11_rounds_145 : decode cX11_rounds 145 = .ok (.istore 4, 2) := by decide +kernel
theorem dX11_rounds_147 : decode cX11_rounds 147 = .ok (.iload 4, 2) := by decide +kernel
theorem dX11_rounds_149 : decode cX11_rounds 149 = .ok (.iconst 3, 1) := by decide +kernel
theorem dX11_rounds_150 : decode cX11_rounds 150 = .ok (.if_icmp .ge 45, 3) := by decide +kernel
theorem dX11_rounds_153 : decode cX11_rounds 153 = .ok (.sipush 256, 3) := by decide +kernel
theorem dX11_rounds_156 : decode cX11_rounds 156 = .ok (.iload_n 3, 1) := by decide +kernel
theorem dX11_rounds_157 : decode cX11_rounds 157 = .ok (.imul, 1) := by decide +kernel
theorem dX11_rounds_158 : decode cX11_rounds 158 = .ok (.iconst 2, 1) := by decide +kernel
theorem dX11_rounds_159 : decode cX11_rounds 159 = .ok (.aload_n 0, 1) := by decide +kernel
theorem dX11_rounds_160 : decode cX11_rounds 160 = .ok (.getfield 46, 3) := by decide +kernel
theorem dX11_rounds_163 : decode cX11_rounds 163 = .ok (.iconst 3, 1) := by decide +kernel
theorem dX11_rounds_164 : decode cX11_rounds 164 = .ok (.iload_n 2, 1) := by decide +kernel
theorem dX11_rounds_165 : decode cX11_rounds 165 = .ok (.imul, 1) := by decide +kernel
theorem dX11_rounds_166 : decode cX11_rounds 166 = .ok (.iload 4, 2) := by decide +kernel
theorem dX11_rounds_168 : decode cX11_rounds 168 = .ok (.iadd, 1) := by decide +kernel
theorem dX11_rounds_169 : decode cX11_rounds 169 = .ok (.iaload, 1) := by decide +kernel
theorem dX11_rounds_170 : decode cX11_rounds 170 = .ok (.imul, 1) := by decide +kernel
theorem dX11_rounds_171 : decode cX11_rounds 171 = .ok (.aload_n 0, 1) := by decide +kernel
theorem dX11_rounds_172 : decode cX11_rounds 172 = .ok (.getfield 34, 3) := by decide +kernel
theorem dX11_rounds_175 : decode cX11_rounds 175 = .ok (.iload_n 2, 1) := by decide +kernel
theorem dX11_rounds_176 : decode cX11_rounds 176 = .ok (.iaload, 1) := by decide +kernel
theorem dX11_rounds_177 : decode cX11_rounds 177 = .ok (.iadd, 1) := by decide +kernel
theorem dX11_rounds_178 : decode cX11_rounds 178 = .ok (.iconst 2, 1) := by decide +kernel
theorem dX11_rounds_179 : decode cX11_rounds 179 = .ok (.aload_n 0, 1) := by decide +kernel
theorem dX11_rounds_180 : decode cX11_rounds 180 = .ok (.getfield 34, 3) := by decide +kernel
theorem dX11_rounds_183 : decode cX11_rounds 183 = .ok (.iload_n 2, 1) := by decide +kernel
theorem dX11_rounds_184 : decode cX11_rounds 184 = .ok (.iaload, 1) := by decide +kernel
theorem dX11_rounds_185 : decode cX11_rounds 185 = .ok (.imul, 1) := by decide +kernel
theorem dX11_rounds_186 : decode cX11_rounds 186 = .ok (.idiv, 1) := by decide +kernel
theorem dX11_rounds_187 : decode cX11_rounds 187 = .ok (.iadd, 1) := by decide +kernel
theorem dX11_rounds_188 : decode cX11_rounds 188 = .ok (.istore_n 3, 1) := by decide +kernel
theorem dX11_rounds_189 : decode cX11_rounds 189 = .ok (.iinc 4 1, 3) := by decide +kernel
theorem dX11_rounds_192 : decode cX11_rounds 192 = .ok (.goto (-45), 3) := by decide +kernel
theorem dX11_rounds_195 : decode cX11_rounds 195 = .ok (.iload_n 1, 1) := by decide +kernel
theorem dX11_rounds_196 : decode cX11_rounds 196 = .ok (.ifCond .ne 17, 3) := by decide +kernel
theorem dX11_rounds_199 : decode cX11_rounds 199 = .ok (.iload_n 3, 1) := by decide +kernel
theorem dX11_rounds_200 : decode cX11_rounds 200 = .ok (.aload_n 0, 1) := by decide +kernel
theorem dX11_rounds_201 : decode cX11_rounds 201 = .ok (.getfield 7, 3) := by decide +kernel
theorem dX11_rounds_204 : decode cX11_rounds 204 = .ok (.sipush 259, 3) := by decide +kernel
theorem dX11_rounds_207 : decode cX11_rounds 207 = .ok (.iload_n 2, 1) := by decide +kernel
theorem dX11_rounds_208 : decode cX11_rounds 208 = .ok (.iadd, 1) := by decide +kernel
theorem dX11_rounds_209 : decode cX11_rounds 209 = .ok (.iaload, 1) := by decide +kernel
theorem dX11_rounds_210 : decode cX11_rounds 210 = .ok (.if_icmp .eq 7, 3) := by decide +kernel
theorem dX11_rounds_213 : decode cX11_rounds 213 = .ok (.iconst 1, 1) := by decide +kernel
theorem dX11_rounds_214 : decode cX11_rounds 214 = .ok (.goto 4, 3) := by decide +kernel
theorem dX11_rounds_217 : decode cX11_rounds 217 = .ok (.iconst 0, 1) := by decide +kernel
theorem dX11_rounds_218 : decode cX11_rounds 218 = .ok (.istore_n 1, 1) := by decide +kernel
theorem dX11_rounds_219 : decode cX11_rounds 219 = .ok (.aload_n 0, 1) := by decide +kernel
theorem dX11_rounds_220 : decode cX11_rounds 220 = .ok (.getfield 7, 3) := by decide +kernel
theorem dX11_rounds_223 : decode cX11_rounds 223 = .ok (.sipush 259, 3) := by decide +kernel
theorem dX11_rounds_226 : decode cX11_rounds 226 = .ok (.iload_n 2, 1) := by decide +kernel
theorem dX11_rounds_227 : decode cX11_rounds 227 = .ok (.iadd, 1) := by decide +kernel
theorem dX11_rounds_228 : decode cX11_rounds 228 = .ok (.iload_n 3, 1) := by decide +kernel
theorem dX11_rounds_229 : decode cX11_rounds 229 = .ok (.iastore, 1) := by decide +kernel
theorem dX11_rounds_230 : decode cX11_rounds 230 = .ok (.iinc 2 1, 3) := by decide +kernel
theorem dX11_rounds_233 : decode cX11_rounds 233 = .ok (.goto (-120), 3) := by decide +kernel
theorem dX11_rounds_236 : decode cX11_rounds 236 = .ok (.iload_n 1, 1) := by decide +kernel
theorem dX11_rounds_237 : decode cX11_rounds 237 = .ok (.ireturn, 1) := by decide +kernel
theorem dX11_refine_0 : decode cX11_refine 0 = .ok (.iload_n 1, 1) := by decide +kernel
theorem dX11_refine_1 : decode cX11_refine 1 = .ok (.iconst 1, 1) := by decide +kernel
theorem dX11_refine_2 : decode cX11_refine 2 = .ok (.bipush 20, 2) := by decide +kernel
theorem dX11_refine_4 : decode cX11_refine 4 = .ok (.invokestatic 57, 3) := by decide +kernel
theorem dX11_refine_7 : decode cX11_refine 7 = .ok (.ifCond .ne 6, 3) := by decide +kernel
theorem dX11_refine_10 : decode cX11_refine 10 = .ok (.bipush (-2), 2) := by decide +kernel
theorem dX11_refine_12 : decode cX11_refine 12 = .ok (.ireturn, 1) := by decide +kernel
theorem dX11_refine_13 : decode cX11_refine 13 = .ok (.aload_n 0, 1) := by decide +kernel
theorem dX11_refine_14 : decode cX11_refine 14 = .ok (.getfield 7, 3) := by decide +kernel
theorem dX11_refine_17 : decode cX11_refine 17 = .ok (.sipush 258, 3) := by decide +kernel
theorem dX11_refine_20 : decode cX11_refine 20 = .ok (.iaload, 1) := by decide +kernel
theorem dX11_refine_21 : decode cX11_refine 21 = .ok (.ifCond .ne 6, 3) := by decide +kernel
theorem dX11_refine_24 : decode cX11_refine 24 = .ok (.bipush (-3), 2) := by decide +kernel
theorem dX11_refine_26 : decode cX11_refine 26 = .ok (.ireturn, 1) := by decide +kernel
theorem dX11_refine_27 : decode cX11_refine 27 = .ok (.aload_n 0, 1) := by decide +kernel
theorem dX11_refine_28 : decode cX11_refine 28 = .ok (.iconst 1, 1) := by decide +kernel
theorem dX11_refine_29 : decode cX11_refine 29 = .ok (.invokevirtual 83, 3) := by decide +kernel
theorem dX11_refine_32 : decode cX11_refine 32 = .ok (.iconst 0, 1) := by decide +kernel
theorem dX11_refine_33 : decode cX11_refine 33 = .ok (.istore_n 2, 1) := by decide +kernel
theorem dX11_refine_34 : decode cX11_refine 34 = .ok (.iconst 1, 1) := by decide +kernel
theorem dX11_refine_35 : decode cX11_refine 35 = .ok (.istore_n 3, 1) := by decide +kernel
theorem dX11_refine_36 : decode cX11_refine 36 = .ok (.iconst 0, 1) := by decide +kernel
theorem dX11_refine_37 : decode cX11_refine 37 = .ok (.istore 4, 2) := by decide +kernel
theorem dX11_refine_39 : decode cX11_refine 39 = .ok (.iload 4, 2) := by decide +kernel
theorem dX11_refine_41 : decode cX11_refine 41 = .ok (.iload_n 1, 1) := by decide +kernel
theorem dX11_refine_42 : decode cX11_refine 42 = .ok (.if_icmp .ge 30, 3) := by decide +kernel
theorem dX11_refine_45 : decode cX11_refine 45 = .ok (.iload_n 3, 1) := by decide +kernel
theorem dX11_refine_46 : decode cX11_refine 46 = .ok (.ifCond .eq 26, 3) := by decide +kernel
theorem dX11_refine_49 : decode cX11_refine 49 = .ok (.aload_n 0, 1) := by decide +kernel
theorem dX11_refine_50 : decode cX11_refine 50 = .ok (.invokevirtual 213, 3) := by decide +kernel
theorem dX11_refine_53 : decode cX11_refine 53 = .ok (.istore_n 3, 1) := by decide +kernel
theorem dX11_refine_54 : decode cX11_refine 54 = .ok (.iload_n 2, 1) := by decide +kernel
theorem dX11_refine_55 : decode cX11_refine 55 = .ok (.iload_n 3, 1) := by decide +kernel
theorem dX11_refine_56 : decode cX11_refine 56 = .ok (.ifCond .eq 7, 3) := by decide +kernel
theorem dX11_refine_59 : decode cX11_refine 59 = .ok (.iconst 1, 1) := by decide +kernel
theorem dX11_refine_60 : decode cX11_refine 60 = .ok (.goto 4, 3) := by decide +kernel
theorem dX11_refine_63 : decode cX11_refine 63 = .ok (.iconst 0, 1) := by decide +kernel
theorem dX11_refine_64 : decode cX11_refine 64 = .ok (.iadd, 1) := by decide +kernel
theorem dX11_refine_65 : decode cX11_refine 65 = .ok (.istore_n 2, 1) := by decide +kernel
theorem dX11_refine_66 : decode cX11_refine 66 = .ok (.iinc 4 1, 3) := by decide +kernel
theorem dX11_refine_69 : decode cX11_refine 69 = .ok (.goto (-30), 3) := by decide +kernel
theorem dX11_refine_72 : decode cX11_refine 72 = .ok (.iload_n 2, 1) := by decide +kernel
theorem dX11_refine_73 : decode cX11_refine 73 = .ok (.ireturn, 1) := by decide +kernel
theorem dX11_costOf_0 : decode cX11_costOf 0 = .ok (.aload_n 0, 1) := by decide +kernel
theorem dX11_costOf_1 : decode cX11_costOf 1 = .ok (.getfield 34, 3) := by decide +kernel
theorem dX11_costOf_4 : decode cX11_costOf 4 = .ok (.iload_n 1, 1) := by decide +kernel
theorem dX11_costOf_5 : decode cX11_costOf 5 = .ok (.iaload, 1) := by decide +kernel
theorem dX11_costOf_6 : decode cX11_costOf 6 = .ok (.i2l, 1) := by decide +kernel
theorem dX11_costOf_7 : decode cX11_costOf 7 = .ok (.lstore_n 3, 1) := by decide +kernel
theorem dX11_costOf_8 : decode cX11_costOf 8 = .ok (.aload_n 0, 1) := by decide +kernel
theorem dX11_costOf_9 : decode cX11_costOf 9 = .ok (.getfield 34, 3) := by decide +kernel
theorem dX11_costOf_12 : decode cX11_costOf 12 = .ok (.iload_n 2, 1) := by decide +kernel
theorem dX11_costOf_13 : decode cX11_costOf 13 = .ok (.iaload, 1) := by decide +kernel
theorem dX11_costOf_14 : decode cX11_costOf 14 = .ok (.i2l, 1) := by decide +kernel
theorem dX11_costOf_15 : decode cX11_costOf 15 = .ok (.lstore 5, 2) := by decide +kernel
theorem dX11_costOf_17 : decode cX11_costOf 17 = .ok (.lload_n 3, 1) := by decide +kernel
theorem dX11_costOf_18 : decode cX11_costOf 18 = .ok (.lload 5, 2) := by decide +kernel
theorem dX11_costOf_20 : decode cX11_costOf 20 = .ok (.ladd, 1) := by decide +kernel
theorem dX11_costOf_21 : decode cX11_costOf 21 = .ok (.lconst 0, 1) := by decide +kernel
theorem dX11_costOf_22 : decode cX11_costOf 22 = .ok (.lcmp, 1) := by decide +kernel
theorem dX11_costOf_23 : decode cX11_costOf 23 = .ok (.ifCond .ne 7, 3) := by decide +kernel
theorem dX11_costOf_26 : decode cX11_costOf 26 = .ok (.lconst 0, 1) := by decide +kernel
theorem dX11_costOf_27 : decode cX11_costOf 27 = .ok (.goto 38, 3) := by decide +kernel
theorem dX11_costOf_30 : decode cX11_costOf 30 = .ok (.lload_n 3, 1) := by decide +kernel
theorem dX11_costOf_31 : decode cX11_costOf 31 = .ok (.lload 5, 2) := by decide +kernel
theorem dX11_costOf_33 : decode cX11_costOf 33 = .ok (.lmul, 1) := by decide +kernel
theorem dX11_costOf_34 : decode cX11_costOf 34 = .ok (.aload_n 0, 1) := by decide +kernel
theorem dX11_costOf_35 : decode cX11_costOf 35 = .ok (.aload_n 0, 1) := by decide +kernel
theorem dX11_costOf_36 : decode cX11_costOf 36 = .ok (.getfield 7, 3) := by decide +kernel
theorem dX11_costOf_39 : decode cX11_costOf 39 = .ok (.sipush 259, 3) := by decide +kernel
theorem dX11_costOf_42 : decode cX11_costOf 42 = .ok (.iload_n 1, 1) := by decide +kernel
theorem dX11_costOf_43 : decode cX11_costOf 43 = .ok (.iadd, 1) := by decide +kernel
theorem dX11_costOf_44 : decode cX11_costOf 44 = .ok (.iaload, 1) := by decide +kernel
theorem dX11_costOf_45 : decode cX11_costOf 45 = .ok (.aload_n 0, 1) := by decide +kernel
theorem dX11_costOf_46 : decode cX11_costOf 46 = .ok (.getfield 7, 3) := by decide +kernel
theorem dX11_costOf_49 : decode cX11_costOf 49 = .ok (.sipush 259, 3) := by decide +kernel
theorem dX11_costOf_52 : decode cX11_costOf 52 = .ok (.iload_n 2, 1) := by decide +kernel
theorem dX11_costOf_53 : decode cX11_costOf 53 = .ok (.iadd, 1) := by decide +kernel
theorem dX11_costOf_54 : decode cX11_costOf 54 = .ok (.iaload, 1) := by decide +kernel
theorem dX11_costOf_55 : decode cX11_costOf 55 = .ok (.invokevirtual 73, 3) := by decide +kernel
theorem dX11_costOf_58 : decode cX11_costOf 58 = .ok (.i2l, 1) := by decide +kernel
theorem dX11_costOf_59 : decode cX11_costOf 59 = .ok (.lmul, 1) := by decide +kernel
theorem dX11_costOf_60 : decode cX11_costOf 60 = .ok (.lload_n 3, 1) := by decide +kernel
theorem dX11_costOf_61 : decode cX11_costOf 61 = .ok (.lload 5, 2) := by decide +kernel
theorem dX11_costOf_63 : decode cX11_costOf 63 = .ok (.ladd, 1) := by decide +kernel
theorem dX11_costOf_64 : decode cX11_costOf 64 = .ok (.ldiv, 1) := by decide +kernel
theorem dX11_costOf_65 : decode cX11_costOf 65 = .ok (.lreturn, 1) := by decide +kernel
theorem dX11_mergedColor_0 : decode cX11_mergedColor 0 = .ok (.aload_n 0, 1) := by decide +kernel
theorem dX11_mergedColor_1 : decode cX11_mergedColor 1 = .ok (.getfield 34, 3) := by decide +kernel
theorem dX11_mergedColor_4 : decode cX11_mergedColor 4 = .ok (.iload_n 1, 1) := by decide +kernel
theorem dX11_mergedColor_5 : decode cX11_mergedColor 5 = .ok (.iaload, 1) := by decide +kernel
theorem dX11_mergedColor_6 : decode cX11_mergedColor 6 = .ok (.istore_n 3, 1) := by decide +kernel
theorem dX11_mergedColor_7 : decode cX11_mergedColor 7 = .ok (.aload_n 0, 1) := by decide +kernel
theorem dX11_mergedColor_8 : decode cX11_mergedColor 8 = .ok (.getfield 34, 3) := by decide +kernel
theorem dX11_mergedColor_11 : decode cX11_mergedColor 11 = .ok (.iload_n 2, 1) := by decide +kernel
theorem dX11_mergedColor_12 : decode cX11_mergedColor 12 = .ok (.iaload, 1) := by decide +kernel
theorem dX11_mergedColor_13 : decode cX11_mergedColor 13 = .ok (.istore 4, 2) := by decide +kernel
theorem dX11_mergedColor_15 : decode cX11_mergedColor 15 = .ok (.aload_n 0, 1) := by decide +kernel
theorem dX11_mergedColor_16 : decode cX11_mergedColor 16 = .ok (.iload_n 1, 1) := by decide +kernel
theorem dX11_mergedColor_17 : decode cX11_mergedColor 17 = .ok (.invokevirtual 124, 3) := by decide +kernel
theorem dX11_mergedColor_20 : decode cX11_mergedColor 20 = .ok (.ifCond .ne 11, 3) := by decide +kernel
theorem dX11_mergedColor_23 : decode cX11_mergedColor 23 = .ok (.aload_n 0, 1) := by decide +kernel
theorem dX11_mergedColor_24 : decode cX11_mergedColor 24 = .ok (.iload_n 2, 1) := by decide +kernel
theorem dX11_mergedColor_25 : decode cX11_mergedColor 25 = .ok (.invokevirtual 124, 3) := by decide +kernel
theorem dX11_mergedColor_28 : decode cX11_mergedColor 28 = .ok (.ifCond .eq 35, 3) := by decide +kernel
theorem dX11_mergedColor_31 : decode cX11_mergedColor 31 = .ok (.aload_n 0, 1) := by decide +kernel
theorem dX11_mergedColor_32 : decode cX11_mergedColor 32 = .ok (.iload_n 1, 1) := by decide +kernel
theorem dX11_mergedColor_33 : decode cX11_mergedColor 33 = .ok (.invokevirtual 124, 3) := by decide +kernel
theorem dX11_mergedColor_36 : decode cX11_mergedColor 36 = .ok (.ifCond .eq 16, 3) := by decide +kernel
theorem dX11_mergedColor_39 : decode cX11_mergedColor 39 = .ok (.aload_n 0, 1) := by decide +kernel
theorem dX11_mergedColor_40 : decode cX11_mergedColor 40 = .ok (.getfield 7, 3) := by decide +kernel
theorem dX11_mergedColor_43 : decode cX11_mergedColor 43 = .ok (.sipush 259, 3) := by decide +kernel
theorem dX11_mergedColor_46 : decode cX11_mergedColor 46 = .ok (.iload_n 1, 1) := by decide +kernel
theorem dX11_mergedColor_47 : decode cX11_mergedColor 47 = .ok (.iadd, 1) := by decide +kernel
theorem dX11_mergedColor_48 : decode cX11_mergedColor 48 = .ok (.iaload, 1) := by decide +kernel
theorem dX11_mergedColor_49 : decode cX11_mergedColor 49 = .ok (.goto 13, 3) := by decide +kernel
theorem dX11_mergedColor_52 : decode cX11_mergedColor 52 = .ok (.aload_n 0, 1) := by decide +kernel
theorem dX11_mergedColor_53 : decode cX11_mergedColor 53 = .ok (.getfield 7, 3) := by decide +kernel
theorem dX11_mergedColor_56 : decode cX11_mergedColor 56 = .ok (.sipush 259, 3) := by decide +kernel
theorem dX11_mergedColor_59 : decode cX11_mergedColor 59 = .ok (.iload_n 2, 1) := by decide +kernel
theorem dX11_mergedColor_60 : decode cX11_mergedColor 60 = .ok (.iadd, 1) := by decide +kernel
theorem dX11_mergedColor_61 : decode cX11_mergedColor 61 = .ok (.iaload, 1) := by decide +kernel
theorem dX11_mergedColor_62 : decode cX11_mergedColor 62 = .ok (.ireturn, 1) := by decide +kernel
theorem dX11_mergedColor_63 : decode cX11_mergedColor 63 = .ok (.iconst 0, 1) := by decide +kernel
theorem dX11_mergedColor_64 : decode cX11_mergedColor 64 = .ok (.istore 5, 2) := by decide +kernel
theorem dX11_mergedColor_66 : decode cX11_mergedColor 66 = .ok (.iconst 0, 1) := by decide +kernel
theorem dX11_mergedColor_67 : decode cX11_mergedColor 67 = .ok (.istore 6, 2) := by decide +kernel
theorem dX11_mergedColor_69 : decode cX11_mergedColor 69 = .ok (.iload 6, 2) := by decide +kernel
theorem dX11_mergedColor_71 : decode cX11_mergedColor 71 = .ok (.iconst 3, 1) := by decide +kernel
theorem dX11_mergedColor_72 : decode cX11_mergedColor 72 = .ok (.if_icmp .ge 83, 3) := by decide +kernel
theorem dX11_mergedColor_75 : decode cX11_mergedColor 75 = .ok (.iload_n 3, 1) := by decide +kernel
theorem dX11_mergedColor_76 : decode cX11_mergedColor 76 = .ok (.iload 4, 2) := by decide +kernel
theorem dX11_mergedColor_78 : decode cX11_mergedColor 78 = .ok (.iadd, 1) := by decide +kernel
theorem dX11_mergedColor_79 : decode cX11_mergedColor 79 = .ok (.ifCond .le 76, 3) := by decide +kernel
theorem dX11_mergedColor_82 : decode cX11_mergedColor 82 = .ok (.aload_n 0, 1) := by decide +kernel
theorem dX11_mergedColor_83 : decode cX11_mergedColor 83 = .ok (.getfield 7, 3) := by decide +kernel
theorem dX11_mergedColor_86 : decode cX11_mergedColor 86 = .ok (.sipush 259, 3) := by decide +kernel
theorem dX11_mergedColor_89 : decode cX11_mergedColor 89 = .ok (.iload_n 1, 1) := by decide +kernel
theorem dX11_mergedColor_90 : decode cX11_mergedColor 90 = .ok (.iadd, 1) := by decide +kernel
theorem dX11_mergedColor_91 : decode cX11_mergedColor 91 = .ok (.iaload, 1) := by decide +kernel
theorem dX11_mergedColor_92 : decode cX11_mergedColor 92 = .ok (.iload 6, 2) := by decide +kernel
theorem dX11_mergedColor_94 : decode cX11_mergedColor 94 = .ok (.invokestatic 69, 3) := by decide +kernel
theorem dX11_mergedColor_97 : decode cX11_mergedColor 97 = .ok (.istore 7, 2) := by decide +kernel
theorem dX11_mergedColor_99 : decode cX11_mergedColor 99 = .ok (.aload_n 0, 1) := by decide +kernel
theorem dX11_mergedColor_100 : decode cX11_mergedColor 100 = .ok (.getfield 7, 3) := by decide +kernel
theorem dX11_mergedColor_103 : decode cX11_mergedColor 103 = .ok (.sipush 259, 3) := by decide +kernel
theorem dX11_mergedColor_106 : decode cX11_mergedColor 106 = .ok (.iload_n 2, 1) := by decide +kernel
theorem dX11_mergedColor_107 : decode cX11_mergedColor 107 = .ok (.iadd, 1) := by decide +kernel
theorem dX11_mergedColor_108 : decode cX11_mergedColor 108 = .ok (.iaload, 1) := by decide +kernel
theorem dX11_mergedColor_109 : decode cX11_mergedColor 109 = .ok (.iload 6, 2) := by decide +kernel
theorem dX11_mergedColor_111 : decode cX11_mergedColor 111 = .ok (.invokestatic 69, 3) := by decide +kernel
theorem dX11_mergedColor_114 : decode cX11_mergedColor 114 = .ok (.istore 8, 2) := by decide +kernel
theorem dX11_mergedColor_116 : decode cX11_mergedColor 116 = .ok (.sipush 256, 3) := by decide +kernel
theorem dX11_mergedColor_119 : decode cX11_mergedColor 119 = .ok (.iload 5, 2) := by decide +kernel
theorem dX11_mergedColor_121 : decode cX11_mergedColor 121 = .ok (.imul, 1) := by decide +kernel
theorem dX11_mergedColor_122 : decode cX11_mergedColor 122 = .ok (.iconst 2, 1) := by decide +kernel
theorem dX11_mergedColor_123 : decode cX11_mergedColor 123 = .ok (.iload_n 3, 1) := by decide +kernel
theorem dX11_mergedColor_124 : decode cX11_mergedColor 124 = .ok (.iload 7, 2) := by decide +kernel
theorem dX11_mergedColor_126 : decode cX11_mergedColor 126 = .ok (.imul, 1) := by decide +kernel
theorem dX11_mergedColor_127 : decode cX11_mergedColor 127 = .ok (.iload 4, 2) := by decide +kernel
theorem dX11_mergedColor_129 : decode cX11_mergedColor 129 = .ok (.iload 8, 2) := by decide +kernel
theorem dX11_mergedColor_131 : decode cX11_mergedColor 131 = .ok (.imul, 1) := by decide +kernel
theorem dX11_mergedColor_132 : decode cX11_mergedColor 132 = .ok (.iadd, 1) := by decide +kernel
theorem dX11_mergedColor_133 : decode cX11_mergedColor 133 = .ok (.imul, 1) := by decide +kernel
theorem dX11_mergedColor_134 : decode cX11_mergedColor 134 = .ok (.iload_n 3, 1) := by decide +kernel
theorem dX11_mergedColor_135 : decode cX11_mergedColor 135 = .ok (.iadd, 1) := by decide +kernel
theorem dX11_mergedColor_136 : decode cX11_mergedColor 136 = .ok (.iload 4, 2) := by decide +kernel
theorem dX11_mergedColor_138 : decode cX11_mergedColor 138 = .ok (.iadd, 1) := by decide +kernel
theorem dX11_mergedColor_139 : decode cX11_mergedColor 139 = .ok (.iconst 2, 1) := by decide +kernel
theorem dX11_mergedColor_140 : decode cX11_mergedColor 140 = .ok (.iload_n 3, 1) := by decide +kernel
theorem dX11_mergedColor_141 : decode cX11_mergedColor 141 = .ok (.iload 4, 2) := by decide +kernel
theorem dX11_mergedColor_143 : decode cX11_mergedColor 143 = .ok (.iadd, 1) := by decide +kernel
theorem dX11_mergedColor_144 : decode cX11_mergedColor 144 = .ok (.imul, 1) := by decide +kernel
theorem dX11_mergedColor_145 : decode cX11_mergedColor 145 = .ok (.idiv, 1) := by decide +kernel
theorem dX11_mergedColor_146 : decode cX11_mergedColor 146 = .ok (.iadd, 1) := by decide +kernel
theorem dX11_mergedColor_147 : decode cX11_mergedColor 147 = .ok (.istore 5, 2) := by decide +kernel
theorem dX11_mergedColor_149 : decode cX11_mergedColor 149 = .ok (.iinc 6 1, 3) := by decide +kernel
theorem dX11_mergedColor_152 : decode cX11_mergedColor 152 = .ok (.goto (-83), 3) := by decide +kernel
theorem dX11_mergedColor_155 : decode cX11_mergedColor 155 = .ok (.iload_n 3, 1) := by decide +kernel
theorem dX11_mergedColor_156 : decode cX11_mergedColor 156 = .ok (.iload 4, 2) := by decide +kernel
theorem dX11_mergedColor_158 : decode cX11_mergedColor 158 = .ok (.iadd, 1) := by decide +kernel
theorem dX11_mergedColor_159 : decode cX11_mergedColor 159 = .ok (.ifCond .le 8, 3) := by decide +kernel
theorem dX11_mergedColor_162 : decode cX11_mergedColor 162 = .ok (.iload 5, 2) := by decide +kernel
theorem dX11_mergedColor_164 : decode cX11_mergedColor 164 = .ok (.goto 13, 3) := by decide +kernel
theorem dX11_mergedColor_167 : decode cX11_mergedColor 167 = .ok (.aload_n 0, 1) := by decide +kernel
theorem dX11_mergedColor_168 : decode cX11_mergedColor 168 = .ok (.getfield 7, 3) := by decide +kernel
theorem dX11_mergedColor_171 : decode cX11_mergedColor 171 = .ok (.sipush 259, 3) := by decide +kernel
theorem dX11_mergedColor_174 : decode cX11_mergedColor 174 = .ok (.iload_n 1, 1) := by decide +kernel
theorem dX11_mergedColor_175 : decode cX11_mergedColor 175 = .ok (.iadd, 1) := by decide +kernel
theorem dX11_mergedColor_176 : decode cX11_mergedColor 176 = .ok (.iaload, 1) := by decide +kernel
theorem dX11_mergedColor_177 : decode cX11_mergedColor 177 = .ok (.ireturn, 1) := by decide +kernel
theorem dX11_mergesTwo_0 : decode cX11_mergesTwo 0 = .ok (.aload_n 0, 1) := by decide +kernel
theorem dX11_mergesTwo_1 : decode cX11_mergesTwo 1 = .ok (.invokevirtual 149, 3) := by decide +kernel
theorem dX11_mergesTwo_4 : decode cX11_mergesTwo 4 = .ok (.iconst (-1), 1) := by decide +kernel
theorem dX11_mergesTwo_5 : decode cX11_mergesTwo 5 = .ok (.istore_n 1, 1) := by decide +kernel
theorem dX11_mergesTwo_6 : decode cX11_mergesTwo 6 = .ok (.iconst (-1), 1) := by decide +kernel
theorem dX11_mergesTwo_7 : decode cX11_mergesTwo 7 = .ok (.istore_n 2, 1) := by decide +kernel
theorem dX11_mergesTwo_8 : decode cX11_mergesTwo 8 = .ok (.iconst 0, 1) := by decide +kernel
theorem dX11_mergesTwo_9 : decode cX11_mergesTwo 9 = .ok (.istore_n 3, 1) := by decide +kernel
theorem dX11_mergesTwo_10 : decode cX11_mergesTwo 10 = .ok (.iload_n 3, 1) := by decide +kernel
theorem dX11_mergesTwo_11 : decode cX11_mergesTwo 11 = .ok (.aload_n 0, 1) := by decide +kernel
theorem dX11_mergesTwo_12 : decode cX11_mergesTwo 12 = .ok (.getfield 7, 3) := by decide +kernel
theorem dX11_mergesTwo_15 : decode cX11_mergesTwo 15 = .ok (.sipush 258, 3) := by decide +kernel
theorem dX11_mergesTwo_18 : decode cX11_mergesTwo 18 = .ok (.iaload, 1) := by decide +kernel
theorem dX11_mergesTwo_19 : decode cX11_mergesTwo 19 = .ok (.if_icmp .ge 89, 3) := by decide +kernel
theorem dX11_mergesTwo_22 : decode cX11_mergesTwo 22 = .ok (.iload_n 3, 1) := by decide +kernel
theorem dX11_mergesTwo_23 : decode cX11_mergesTwo 23 = .ok (.iconst 1, 1) := by decide +kernel
theorem dX11_mergesTwo_24 : decode cX11_mergesTwo 24 = .ok (.iadd, 1) := by decide +kernel
theorem dX11_mergesTwo_25 : decode cX11_mergesTwo 25 = .ok (.istore 4, 2) := by decide +kernel
theorem dX11_mergesTwo_27 : decode cX11_mergesTwo 27 = .ok (.iload 4, 2) := by decide +kernel
theorem dX11_mergesTwo_29 : decode cX11_mergesTwo 29 = .ok (.aload_n 0, 1) := by decide +kernel
theorem dX11_mergesTwo_30 : decode cX11_mergesTwo 30 = .ok (.getfield 7, 3) := by decide +kernel
theorem dX11_mergesTwo_33 : decode cX11_mergesTwo 33 = .ok (.sipush 258, 3) := by decide +kernel
theorem dX11_mergesTwo_36 : decode cX11_mergesTwo 36 = .ok (.iaload, 1) := by decide +kernel
theorem dX11_mergesTwo_37 : decode cX11_mergesTwo 37 = .ok (.if_icmp .ge 65, 3) := by decide +kernel
theorem dX11_mergesTwo_40 : decode cX11_mergesTwo 40 = .ok (.aload_n 0, 1) := by decide +kernel
theorem dX11_mergesTwo_41 : decode cX11_mergesTwo 41 = .ok (.iload_n 3, 1) := by decide +kernel
theorem dX11_mergesTwo_42 : decode cX11_mergesTwo 42 = .ok (.invokevirtual 124, 3) := by decide +kernel
theorem dX11_mergesTwo_45 : decode cX11_mergesTwo 45 = .ok (.ifCond .eq 12, 3) := by decide +kernel
theorem dX11_mergesTwo_48 : decode cX11_mergesTwo 48 = .ok (.aload_n 0, 1) := by decide +kernel
theorem dX11_mergesTwo_49 : decode cX11_mergesTwo 49 = .ok (.iload 4, 2) := by decide +kernel
theorem dX11_mergesTwo_51 : decode cX11_mergesTwo 51 = .ok (.invokevirtual 124, 3) := by decide +kernel
theorem dX11_mergesTwo_54 : decode cX11_mergesTwo 54 = .ok (.ifCond .ne 7, 3) := by decide +kernel
theorem dX11_mergesTwo_57 : decode cX11_mergesTwo 57 = .ok (.iconst 1, 1) := by decide +kernel
theorem dX11_mergesTwo_58 : decode cX11_mergesTwo 58 = .ok (.goto 4, 3) := by decide +kernel
theorem dX11_mergesTwo_61 : decode cX11_mergesTwo 61 = .ok (.iconst 0, 1) := by decide +kernel
theorem dX11_mergesTwo_62 : decode cX11_mergesTwo 62 = .ok (.istore 5, 2) := by decide +kernel
theorem dX11_mergesTwo_64 : decode cX11_mergesTwo 64 = .ok (.iload 5, 2) := by decide +kernel
theorem dX11_mergesTwo_66 : decode cX11_mergesTwo 66 = .ok (.ifCond .eq 30, 3) := by decide +kernel
theorem dX11_mergesTwo_69 : decode cX11_mergesTwo 69 = .ok (.iload_n 1, 1) := by decide +kernel
theorem dX11_mergesTwo_70 : decode cX11_mergesTwo 70 = .ok (.iconst (-1), 1) := by decide +kernel
theorem dX11_mergesTwo_71 : decode cX11_mergesTwo 71 = .ok (.if_icmp .eq 20, 3) := by decide +kernel
theorem dX11_mergesTwo_74 : decode cX11_mergesTwo 74 = .ok (.aload_n 0, 1) := by decide +kernel
theorem dX11_mergesTwo_75 : decode cX11_mergesTwo 75 = .ok (.iload_n 3, 1) := by decide +kernel
theorem dX11_mergesTwo_76 : decode cX11_mergesTwo 76 = .ok (.iload 4, 2) := by decide +kernel
theorem dX11_mergesTwo_78 : decode cX11_mergesTwo 78 = .ok (.invokevirtual 217, 3) := by decide +kernel
theorem dX11_mergesTwo_81 : decode cX11_mergesTwo 81 = .ok (.aload_n 0, 1) := by decide +kernel
theorem dX11_mergesTwo_82 : decode cX11_mergesTwo 82 = .ok (.iload_n 1, 1) := by decide +kernel
theorem dX11_mergesTwo_83 : decode cX11_mergesTwo 83 = .ok (.iload_n 2, 1) := by decide +kernel
theorem dX11_mergesTwo_84 : decode cX11_mergesTwo 84 = .ok (.invokevirtual 217, 3) := by decide +kernel
theorem dX11_mergesTwo_87 : decode cX11_mergesTwo 87 = .ok (.lcmp, 1) := by decide +kernel
theorem dX11_mergesTwo_88 : decode cX11_mergesTwo 88 = .ok (.ifCond .ge 8, 3) := by decide +kernel
theorem dX11_mergesTwo_91 : decode cX11_mergesTwo 91 = .ok (.iload_n 3, 1) := by decide +kernel
theorem dX11_mergesTwo_92 : decode cX11_mergesTwo 92 = .ok (.istore_n 1, 1) := by decide +kernel
theorem dX11_mergesTwo_93 : decode cX11_mergesTwo 93 = .ok (.iload 4, 2) := by decide +kernel
theorem dX11_mergesTwo_95 : decode cX11_mergesTwo 95 = .ok (.istore_n 2, 1) := by decide +kernel
theorem dX11_mergesTwo_96 : decode cX11_mergesTwo 96 = .ok (.iinc 4 1, 3) := by decide +kernel
theorem dX11_mergesTwo_99 : decode cX11_mergesTwo 99 = .ok (.goto (-72), 3) := by decide +kernel
theorem dX11_mergesTwo_102 : decode cX11_mergesTwo 102 = .ok (.iinc 3 1, 3) := by decide +kernel
theorem dX11_mergesTwo_105 : decode cX11_mergesTwo 105 = .ok (.goto (-95), 3) := by decide +kernel
theorem dX11_mergesTwo_108 : decode cX11_mergesTwo 108 = .ok (.iload_n 1, 1) := by decide +kernel
theorem dX11_mergesTwo_109 : decode cX11_mergesTwo 109 = .ok (.iconst (-1), 1) := by decide +kernel
theorem dX11_mergesTwo_110 : decode cX11_mergesTwo 110 = .ok (.if_icmp .ne 5, 3) := by decide +kernel
theorem dX11_mergesTwo_113 : decode cX11_mergesTwo 113 = .ok (.iconst 0, 1) := by decide +kernel
theorem dX11_mergesTwo_114 : decode cX11_mergesTwo 114 = .ok (.ireturn, 1) := by decide +kernel
theorem dX11_mergesTwo_115 : decode cX11_mergesTwo 115 = .ok (.aload_n 0, 1) := by decide +kernel
theorem dX11_mergesTwo_116 : decode cX11_mergesTwo 116 = .ok (.getfield 7, 3) := by decide +kernel
theorem dX11_mergesTwo_119 : decode cX11_mergesTwo 119 = .ok (.sipush 259, 3) := by decide +kernel
theorem dX11_mergesTwo_122 : decode cX11_mergesTwo 122 = .ok (.iload_n 1, 1) := by decide +kernel
theorem dX11_mergesTwo_123 : decode cX11_mergesTwo 123 = .ok (.iadd, 1) := by decide +kernel
theorem dX11_mergesTwo_124 : decode cX11_mergesTwo 124 = .ok (.aload_n 0, 1) := by decide +kernel
theorem dX11_mergesTwo_125 : decode cX11_mergesTwo 125 = .ok (.iload_n 1, 1) := by decide +kernel
theorem dX11_mergesTwo_126 : decode cX11_mergesTwo 126 = .ok (.iload_n 2, 1) := by decide +kernel
theorem dX11_mergesTwo_127 : decode cX11_mergesTwo 127 = .ok (.invokevirtual 220, 3) := by decide +kernel
theorem dX11_mergesTwo_130 : decode cX11_mergesTwo 130 = .ok (.iastore, 1) := by decide +kernel
theorem dX11_mergesTwo_131 : decode cX11_mergesTwo 131 = .ok (.aload_n 0, 1) := by decide +kernel
theorem dX11_mergesTwo_132 : decode cX11_mergesTwo 132 = .ok (.getfield 7, 3) := by decide +kernel
theorem dX11_mergesTwo_135 : decode cX11_mergesTwo 135 = .ok (.sipush 275, 3) := by decide +kernel
theorem dX11_mergesTwo_138 : decode cX11_mergesTwo 138 = .ok (.iload_n 1, 1) := by decide +kernel
theorem dX11_mergesTwo_139 : decode cX11_mergesTwo 139 = .ok (.iadd, 1) := by decide +kernel
theorem dX11_mergesTwo_140 : decode cX11_mergesTwo 140 = .ok (.aload_n 0, 1) := by decide +kernel
theorem dX11_mergesTwo_141 : decode cX11_mergesTwo 141 = .ok (.iload_n 1, 1) := by decide +kernel
theorem dX11_mergesTwo_142 : decode cX11_mergesTwo 142 = .ok (.invokevirtual 124, 3) := by decide +kernel
theorem dX11_mergesTwo_145 : decode cX11_mergesTwo 145 = .ok (.ifCond .ne 11, 3) := by decide +kernel
theorem dX11_mergesTwo_148 : decode cX11_mergesTwo 148 = .ok (.aload_n 0, 1) := by decide +kernel
theorem dX11_mergesTwo_149 : decode cX11_mergesTwo 149 = .ok (.iload_n 2, 1) := by decide +kernel
theorem dX11_mergesTwo_150 : decode cX11_mergesTwo 150 = .ok (.invokevirtual 124, 3) := by decide +kernel
theorem dX11_mergesTwo_153 : decode cX11_mergesTwo 153 = .ok (.ifCond .eq 7, 3) := by decide +kernel
theorem dX11_mergesTwo_156 : decode cX11_mergesTwo 156 = .ok (.iconst 1, 1) := by decide +kernel
theorem dX11_mergesTwo_157 : decode cX11_mergesTwo 157 = .ok (.goto 4, 3) := by decide +kernel
theorem dX11_mergesTwo_160 : decode cX11_mergesTwo 160 = .ok (.iconst 0, 1) := by decide +kernel
theorem dX11_mergesTwo_161 : decode cX11_mergesTwo 161 = .ok (.iastore, 1) := by decide +kernel
theorem dX11_mergesTwo_162 : decode cX11_mergesTwo 162 = .ok (.aload_n 0, 1) := by decide +kernel
theorem dX11_mergesTwo_163 : decode cX11_mergesTwo 163 = .ok (.iload_n 2, 1) := by decide +kernel
theorem dX11_mergesTwo_164 : decode cX11_mergesTwo 164 = .ok (.invokevirtual 139, 3) := by decide +kernel
theorem dX11_mergesTwo_167 : decode cX11_mergesTwo 167 = .ok (.iconst 1, 1) := by decide +kernel
theorem dX11_mergesTwo_168 : decode cX11_mergesTwo 168 = .ok (.ireturn, 1) := by decide +kernel
theorem dX11_merge_0 : decode cX11_merge 0 = .ok (.iload_n 1, 1) := by decide +kernel
theorem dX11_merge_1 : decode cX11_merge 1 = .ok (.iconst 1, 1) := by decide +kernel
theorem dX11_merge_2 : decode cX11_merge 2 = .ok (.bipush 16, 2) := by decide +kernel
theorem dX11_merge_4 : decode cX11_merge 4 = .ok (.invokestatic 57, 3) := by decide +kernel
theorem dX11_merge_7 : decode cX11_merge 7 = .ok (.ifCond .ne 6, 3) := by decide +kernel
theorem dX11_merge_10 : decode cX11_merge 10 = .ok (.bipush (-2), 2) := by decide +kernel
theorem dX11_merge_12 : decode cX11_merge 12 = .ok (.ireturn, 1) := by decide +kernel
theorem dX11_merge_13 : decode cX11_merge 13 = .ok (.aload_n 0, 1) := by decide +kernel
theorem dX11_merge_14 : decode cX11_merge 14 = .ok (.iconst 1, 1) := by decide +kernel
theorem dX11_merge_15 : decode cX11_merge 15 = .ok (.invokevirtual 83, 3) := by decide +kernel
theorem dX11_merge_18 : decode cX11_merge 18 = .ok (.iconst 1, 1) := by decide +kernel
theorem dX11_merge_19 : decode cX11_merge 19 = .ok (.istore_n 2, 1) := by decide +kernel
theorem dX11_merge_20 : decode cX11_merge 20 = .ok (.iload_n 2, 1) := by decide +kernel
theorem dX11_merge_21 : decode cX11_merge 21 = .ok (.ifCond .eq 23, 3) := by decide +kernel
theorem dX11_merge_24 : decode cX11_merge 24 = .ok (.aload_n 0, 1) := by decide +kernel
theorem dX11_merge_25 : decode cX11_merge 25 = .ok (.getfield 7, 3) := by decide +kernel
theorem dX11_merge_28 : decode cX11_merge 28 = .ok (.sipush 258, 3) := by decide +kernel
theorem dX11_merge_31 : decode cX11_merge 31 = .ok (.iaload, 1) := by decide +kernel
theorem dX11_merge_32 : decode cX11_merge 32 = .ok (.iload_n 1, 1) := by decide +kernel
theorem dX11_merge_33 : decode cX11_merge 33 = .ok (.if_icmp .le 11, 3) := by decide +kernel
theorem dX11_merge_36 : decode cX11_merge 36 = .ok (.aload_n 0, 1) := by decide +kernel
theorem dX11_merge_37 : decode cX11_merge 37 = .ok (.invokevirtual 223, 3) := by decide +kernel
theorem dX11_merge_40 : decode cX11_merge 40 = .ok (.istore_n 2, 1) := by decide +kernel
theorem dX11_merge_41 : decode cX11_merge 41 = .ok (.goto (-21), 3) := by decide +kernel
theorem dX11_merge_44 : decode cX11_merge 44 = .ok (.aload_n 0, 1) := by decide +kernel
theorem dX11_merge_45 : decode cX11_merge 45 = .ok (.getfield 7, 3) := by decide +kernel
theorem dX11_merge_48 : decode cX11_merge 48 = .ok (.sipush 258, 3) := by decide +kernel
theorem dX11_merge_51 : decode cX11_merge 51 = .ok (.iaload, 1) := by decide +kernel
theorem dX11_merge_52 : decode cX11_merge 52 = .ok (.ireturn, 1) := by decide +kernel
