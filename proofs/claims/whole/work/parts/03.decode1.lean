theorem dX7_append_0 : decode cX7_append 0 = .ok (.aload_n 0, 1) := by decide +kernel
theorem dX7_append_1 : decode cX7_append 1 = .ok (.getfield 22, 3) := by decide +kernel
theorem dX7_append_4 : decode cX7_append 4 = .ok (.bipush 16, 2) := by decide +kernel
theorem dX7_append_6 : decode cX7_append 6 = .ok (.if_icmp .lt 4, 3) := by decide +kernel
theorem dX7_append_9 : decode cX7_append 9 = .ok (.return_, 1) := by decide +kernel
theorem dX7_append_10 : decode cX7_append 10 = .ok (.aload_n 0, 1) := by decide +kernel
theorem dX7_append_11 : decode cX7_append 11 = .ok (.getfield 25, 3) := by decide +kernel
theorem dX7_append_14 : decode cX7_append 14 = .ok (.aload_n 0, 1) := by decide +kernel
theorem dX7_append_15 : decode cX7_append 15 = .ok (.getfield 22, 3) := by decide +kernel
theorem dX7_append_18 : decode cX7_append 18 = .ok (.iload_n 1, 1) := by decide +kernel
theorem dX7_append_19 : decode cX7_append 19 = .ok (.iastore, 1) := by decide +kernel
theorem dX7_append_20 : decode cX7_append 20 = .ok (.aload_n 0, 1) := by decide +kernel
theorem dX7_append_21 : decode cX7_append 21 = .ok (.getfield 28, 3) := by decide +kernel
theorem dX7_append_24 : decode cX7_append 24 = .ok (.aload_n 0, 1) := by decide +kernel
theorem dX7_append_25 : decode cX7_append 25 = .ok (.getfield 22, 3) := by decide +kernel
theorem dX7_append_28 : decode cX7_append 28 = .ok (.iload_n 2, 1) := by decide +kernel
theorem dX7_append_29 : decode cX7_append 29 = .ok (.bastore, 1) := by decide +kernel
theorem dX7_append_30 : decode cX7_append 30 = .ok (.aload_n 0, 1) := by decide +kernel
theorem dX7_append_31 : decode cX7_append 31 = .ok (.dup, 1) := by decide +kernel
theorem dX7_append_32 : decode cX7_append 32 = .ok (.getfield 22, 3) := by decide +kernel
theorem dX7_append_35 : decode cX7_append 35 = .ok (.iconst 1, 1) := by decide +kernel
theorem dX7_append_36 : decode cX7_append 36 = .ok (.iadd, 1) := by decide +kernel
theorem dX7_append_37 : decode cX7_append 37 = .ok (.putfield 22, 3) := by decide +kernel
theorem dX7_append_40 : decode cX7_append 40 = .ok (.return_, 1) := by decide +kernel
theorem dX7_dropEntry_0 : decode cX7_dropEntry 0 = .ok (.aload_n 0, 1) := by decide +kernel
theorem dX7_dropEntry_1 : decode cX7_dropEntry 1 = .ok (.iload_n 1, 1) := by decide +kernel
theorem dX7_dropEntry_2 : decode cX7_dropEntry 2 = .ok (.invokevirtual 79, 3) := by decide +kernel
theorem dX7_dropEntry_5 : decode cX7_dropEntry 5 = .ok (.ifCond .ne 4, 3) := by decide +kernel
theorem dX7_dropEntry_8 : decode cX7_dropEntry 8 = .ok (.return_, 1) := by decide +kernel
theorem dX7_dropEntry_9 : decode cX7_dropEntry 9 = .ok (.iload_n 1, 1) := by decide +kernel
theorem dX7_dropEntry_10 : decode cX7_dropEntry 10 = .ok (.istore_n 2, 1) := by decide +kernel
theorem dX7_dropEntry_11 : decode cX7_dropEntry 11 = .ok (.iload_n 2, 1) := by decide +kernel
theorem dX7_dropEntry_12 : decode cX7_dropEntry 12 = .ok (.iconst 1, 1) := by decide +kernel
theorem dX7_dropEntry_13 : decode cX7_dropEntry 13 = .ok (.iadd, 1) := by decide +kernel
theorem dX7_dropEntry_14 : decode cX7_dropEntry 14 = .ok (.aload_n 0, 1) := by decide +kernel
theorem dX7_dropEntry_15 : decode cX7_dropEntry 15 = .ok (.getfield 22, 3) := by decide +kernel
theorem dX7_dropEntry_18 : decode cX7_dropEntry 18 = .ok (.if_icmp .ge 37, 3) := by decide +kernel
theorem dX7_dropEntry_21 : decode cX7_dropEntry 21 = .ok (.aload_n 0, 1) := by decide +kernel
theorem dX7_dropEntry_22 : decode cX7_dropEntry 22 = .ok (.getfield 25, 3) := by decide +kernel
theorem dX7_dropEntry_25 : decode cX7_dropEntry 25 = .ok (.iload_n 2, 1) := by decide +kernel
theorem dX7_dropEntry_26 : decode cX7_dropEntry 26 = .ok (.aload_n 0, 1) := by decide +kernel
theorem dX7_dropEntry_27 : decode cX7_dropEntry 27 = .ok (.getfield 25, 3) := by decide +kernel
theorem dX7_dropEntry_30 : decode cX7_dropEntry 30 = .ok (.iload_n 2, 1) := by decide +kernel
theorem dX7_dropEntry_31 : decode cX7_dropEntry 31 = .ok (.iconst 1, 1) := by decide +kernel
theorem dX7_dropEntry_32 : decode cX7_dropEntry 32 = .ok (.iadd, 1) := by decide +kernel
theorem dX7_dropEntry_33 : decode cX7_dropEntry 33 = .ok (.iaload, 1) := by decide +kernel
theorem dX7_dropEntry_34 : decode cX7_dropEntry 34 = .ok (.iastore, 1) := by decide +kernel
theorem dX7_dropEntry_35 : decode cX7_dropEntry 35 = .ok (.aload_n 0, 1) := by decide +kernel
theorem dX7_dropEntry_36 : decode cX7_dropEntry 36 = .ok (.getfield 28, 3) := by decide +kernel
theorem dX7_dropEntry_39 : decode cX7_dropEntry 39 = .ok (.iload_n 2, 1) := by decide +kernel
theorem dX7_dropEntry_40 : decode cX7_dropEntry 40 = .ok (.aload_n 0, 1) := by decide +kernel
theorem dX7_dropEntry_41 : decode cX7_dropEntry 41 = .ok (.getfield 28, 3) := by decide +kernel
theorem dX7_dropEntry_44 : decode cX7_dropEntry 44 = .ok (.iload_n 2, 1) := by decide +kernel
theorem dX7_dropEntry_45 : decode cX7_dropEntry 45 = .ok (.iconst 1, 1) := by decide +kernel
theorem dX7_dropEntry_46 : decode cX7_dropEntry 46 = .ok (.iadd, 1) := by decide +kernel
theorem dX7_dropEntry_47 : decode cX7_dropEntry 47 = .ok (.baload, 1) := by decide +kernel
theorem dX7_dropEntry_48 : decode cX7_dropEntry 48 = .ok (.bastore, 1) := by decide +kernel
theorem dX7_dropEntry_49 : decode cX7_dropEntry 49 = .ok (.iinc 2 1, 3) := by decide +kernel
theorem dX7_dropEntry_52 : decode cX7_dropEntry 52 = .ok (.goto (-41), 3) := by decide +kernel
theorem dX7_dropEntry_55 : decode cX7_dropEntry 55 = .ok (.aload_n 0, 1) := by decide +kernel
theorem dX7_dropEntry_56 : decode cX7_dropEntry 56 = .ok (.dup, 1) := by decide +kernel
theorem dX7_dropEntry_57 : decode cX7_dropEntry 57 = .ok (.getfield 22, 3) := by decide +kernel
theorem dX7_dropEntry_60 : decode cX7_dropEntry 60 = .ok (.iconst 1, 1) := by decide +kernel
theorem dX7_dropEntry_61 : decode cX7_dropEntry 61 = .ok (.isub, 1) := by decide +kernel
theorem dX7_dropEntry_62 : decode cX7_dropEntry 62 = .ok (.putfield 22, 3) := by decide +kernel
theorem dX7_dropEntry_65 : decode cX7_dropEntry 65 = .ok (.return_, 1) := by decide +kernel
theorem dX7_keepLocked_0 : decode cX7_keepLocked 0 = .ok (.aload_n 0, 1) := by decide +kernel
theorem dX7_keepLocked_1 : decode cX7_keepLocked 1 = .ok (.getfield 22, 3) := by decide +kernel
theorem dX7_keepLocked_4 : decode cX7_keepLocked 4 = .ok (.istore_n 1, 1) := by decide +kernel
theorem dX7_keepLocked_5 : decode cX7_keepLocked 5 = .ok (.aload_n 0, 1) := by decide +kernel
theorem dX7_keepLocked_6 : decode cX7_keepLocked 6 = .ok (.iconst 0, 1) := by decide +kernel
theorem dX7_keepLocked_7 : decode cX7_keepLocked 7 = .ok (.putfield 22, 3) := by decide +kernel
theorem dX7_keepLocked_10 : decode cX7_keepLocked 10 = .ok (.iconst 0, 1) := by decide +kernel
theorem dX7_keepLocked_11 : decode cX7_keepLocked 11 = .ok (.istore_n 2, 1) := by decide +kernel
theorem dX7_keepLocked_12 : decode cX7_keepLocked 12 = .ok (.iload_n 2, 1) := by decide +kernel
theorem dX7_keepLocked_13 : decode cX7_keepLocked 13 = .ok (.iload_n 1, 1) := by decide +kernel
theorem dX7_keepLocked_14 : decode cX7_keepLocked 14 = .ok (.if_icmp .ge 29, 3) := by decide +kernel
theorem dX7_keepLocked_17 : decode cX7_keepLocked 17 = .ok (.aload_n 0, 1) := by decide +kernel
theorem dX7_keepLocked_18 : decode cX7_keepLocked 18 = .ok (.getfield 28, 3) := by decide +kernel
theorem dX7_keepLocked_21 : decode cX7_keepLocked 21 = .ok (.iload_n 2, 1) := by decide +kernel
theorem dX7_keepLocked_22 : decode cX7_keepLocked 22 = .ok (.baload, 1) := by decide +kernel
theorem dX7_keepLocked_23 : decode cX7_keepLocked 23 = .ok (.ifCond .eq 14, 3) := by decide +kernel
theorem dX7_keepLocked_26 : decode cX7_keepLocked 26 = .ok (.aload_n 0, 1) := by decide +kernel
theorem dX7_keepLocked_27 : decode cX7_keepLocked 27 = .ok (.aload_n 0, 1) := by decide +kernel
theorem dX7_keepLocked_28 : decode cX7_keepLocked 28 = .ok (.getfield 25, 3) := by decide +kernel
theorem dX7_keepLocked_31 : decode cX7_keepLocked 31 = .ok (.iload_n 2, 1) := by decide +kernel
theorem dX7_keepLocked_32 : decode cX7_keepLocked 32 = .ok (.iaload, 1) := by decide +kernel
theorem dX7_keepLocked_33 : decode cX7_keepLocked 33 = .ok (.iconst 1, 1) := by decide +kernel
theorem dX7_keepLocked_34 : decode cX7_keepLocked 34 = .ok (.invokevirtual 82, 3) := by decide +kernel
theorem dX7_keepLocked_37 : decode cX7_keepLocked 37 = .ok (.iinc 2 1, 3) := by decide +kernel
theorem dX7_keepLocked_40 : decode cX7_keepLocked 40 = .ok (.goto (-28), 3) := by decide +kernel
theorem dX7_keepLocked_43 : decode cX7_keepLocked 43 = .ok (.return_, 1) := by decide +kernel
theorem dX7_isLockedColor_0 : decode cX7_isLockedColor 0 = .ok (.iconst 0, 1) := by decide +kernel
theorem dX7_isLockedColor_1 : decode cX7_isLockedColor 1 = .ok (.istore_n 2, 1) := by decide +kernel
theorem dX7_isLockedColor_2 : decode cX7_isLockedColor 2 = .ok (.iload_n 2, 1) := by decide +kernel
theorem dX7_isLockedColor_3 : decode cX7_isLockedColor 3 = .ok (.aload_n 0, 1) := by decide +kernel
theorem dX7_isLockedColor_4 : decode cX7_isLockedColor 4 = .ok (.getfield 22, 3) := by decide +kernel
theorem dX7_isLockedColor_7 : decode cX7_isLockedColor 7 = .ok (.if_icmp .ge 30, 3) := by decide +kernel
theorem dX7_isLockedColor_10 : decode cX7_isLockedColor 10 = .ok (.aload_n 0, 1) := by decide +kernel
theorem dX7_isLockedColor_11 : decode cX7_isLockedColor 11 = .ok (.getfield 28, 3) := by decide +kernel
theorem dX7_isLockedColor_14 : decode cX7_isLockedColor 14 = .ok (.iload_n 2, 1) := by decide +kernel
theorem dX7_isLockedColor_15 : decode cX7_isLockedColor 15 = .ok (.baload, 1) := by decide +kernel
theorem dX7_isLockedColor_16 : decode cX7_isLockedColor 16 = .ok (.ifCond .eq 15, 3) := by decide +kernel
theorem dX7_isLockedColor_19 : decode cX7_isLockedColor 19 = .ok (.aload_n 0, 1) := by decide +kernel
theorem dX7_isLockedColor_20 : decode cX7_isLockedColor 20 = .ok (.getfield 25, 3) := by decide +kernel
theorem dX7_isLockedColor_23 : decode cX7_isLockedColor 23 = .ok (.iload_n 2, 1) := by decide +kernel
theorem dX7_isLockedColor_24 : decode cX7_isLockedColor 24 = .ok (.iaload, 1) := by decide +kernel
theorem dX7_isLockedColor_25 : decode cX7_isLockedColor 25 = .ok (.iload_n 1, 1) := by decide +kernel
theorem dX7_isLockedColor_26 : decode cX7_isLockedColor 26 = .ok (.if_icmp .ne 5, 3) := by decide +kernel
theorem dX7_isLockedColor_29 : decode cX7_isLockedColor 29 = .ok (.iconst 1, 1) := by decide +kernel
theorem dX7_isLockedColor_30 : decode cX7_isLockedColor 30 = .ok (.ireturn, 1) := by decide +kernel
theorem dX7_isLockedColor_31 : decode cX7_isLockedColor 31 = .ok (.iinc 2 1, 3) := by decide +kernel
theorem dX7_isLockedColor_34 : decode cX7_isLockedColor 34 = .ok (.goto (-32), 3) := by decide +kernel
theorem dX7_isLockedColor_37 : decode cX7_isLockedColor 37 = .ok (.iconst 0, 1) := by decide +kernel
theorem dX7_isLockedColor_38 : decode cX7_isLockedColor 38 = .ok (.ireturn, 1) := by decide +kernel
theorem dX7_exchange_0 : decode cX7_exchange 0 = .ok (.aload_n 0, 1) := by decide +kernel
theorem dX7_exchange_1 : decode cX7_exchange 1 = .ok (.iload_n 1, 1) := by decide +kernel
theorem dX7_exchange_2 : decode cX7_exchange 2 = .ok (.invokevirtual 79, 3) := by decide +kernel
theorem dX7_exchange_5 : decode cX7_exchange 5 = .ok (.ifCond .eq 11, 3) := by decide +kernel
theorem dX7_exchange_8 : decode cX7_exchange 8 = .ok (.aload_n 0, 1) := by decide +kernel
theorem dX7_exchange_9 : decode cX7_exchange 9 = .ok (.iload_n 2, 1) := by decide +kernel
theorem dX7_exchange_10 : decode cX7_exchange 10 = .ok (.invokevirtual 79, 3) := by decide +kernel
theorem dX7_exchange_13 : decode cX7_exchange 13 = .ok (.ifCond .ne 4, 3) := by decide +kernel
theorem dX7_exchange_16 : decode cX7_exchange 16 = .ok (.return_, 1) := by decide +kernel
theorem dX7_exchange_17 : decode cX7_exchange 17 = .ok (.aload_n 0, 1) := by decide +kernel
theorem dX7_exchange_18 : decode cX7_exchange 18 = .ok (.getfield 25, 3) := by decide +kernel
theorem dX7_exchange_21 : decode cX7_exchange 21 = .ok (.iload_n 1, 1) := by decide +kernel
theorem dX7_exchange_22 : decode cX7_exchange 22 = .ok (.iaload, 1) := by decide +kernel
theorem dX7_exchange_23 : decode cX7_exchange 23 = .ok (.istore_n 3, 1) := by decide +kernel
theorem dX7_exchange_24 : decode cX7_exchange 24 = .ok (.aload_n 0, 1) := by decide +kernel
theorem dX7_exchange_25 : decode cX7_exchange 25 = .ok (.getfield 25, 3) := by decide +kernel
theorem dX7_exchange_28 : decode cX7_exchange 28 = .ok (.iload_n 1, 1) := by decide +kernel
theorem dX7_exchange_29 : decode cX7_exchange 29 = .ok (.aload_n 0, 1) := by decide +kernel
theorem dX7_exchange_30 : decode cX7_exchange 30 = .ok (.getfield 25, 3) := by decide +kernel
theorem dX7_exchange_33 : decode cX7_exchange 33 = .ok (.iload_n 2, 1) := by decide +kernel
theorem dX7_exchange_34 : decode cX7_exchange 34 = .ok (.iaload, 1) := by decide +kernel
theorem dX7_exchange_35 : decode cX7_exchange 35 = .ok (.iastore, 1) := by decide +kernel
theorem dX7_exchange_36 : decode cX7_exchange 36 = .ok (.aload_n 0, 1) := by decide +kernel
theorem dX7_exchange_37 : decode cX7_exchange 37 = .ok (.getfield 25, 3) := by decide +kernel
theorem dX7_exchange_40 : decode cX7_exchange 40 = .ok (.iload_n 2, 1) := by decide +kernel
theorem dX7_exchange_41 : decode cX7_exchange 41 = .ok (.iload_n 3, 1) := by decide +kernel
theorem dX7_exchange_42 : decode cX7_exchange 42 = .ok (.iastore, 1) := by decide +kernel
theorem dX7_exchange_43 : decode cX7_exchange 43 = .ok (.aload_n 0, 1) := by decide +kernel
theorem dX7_exchange_44 : decode cX7_exchange 44 = .ok (.getfield 28, 3) := by decide +kernel
theorem dX7_exchange_47 : decode cX7_exchange 47 = .ok (.iload_n 1, 1) := by decide +kernel
theorem dX7_exchange_48 : decode cX7_exchange 48 = .ok (.baload, 1) := by decide +kernel
theorem dX7_exchange_49 : decode cX7_exchange 49 = .ok (.istore 4, 2) := by decide +kernel
theorem dX7_exchange_51 : decode cX7_exchange 51 = .ok (.aload_n 0, 1) := by decide +kernel
theorem dX7_exchange_52 : decode cX7_exchange 52 = .ok (.getfield 28, 3) := by decide +kernel
theorem dX7_exchange_55 : decode cX7_exchange 55 = .ok (.iload_n 1, 1) := by decide +kernel
theorem dX7_exchange_56 : decode cX7_exchange 56 = .ok (.aload_n 0, 1) := by decide +kernel
theorem dX7_exchange_57 : decode cX7_exchange 57 = .ok (.getfield 28, 3) := by decide +kernel
theorem dX7_exchange_60 : decode cX7_exchange 60 = .ok (.iload_n 2, 1) := by decide +kernel
theorem dX7_exchange_61 : decode cX7_exchange 61 = .ok (.baload, 1) := by decide +kernel
theorem dX7_exchange_62 : decode cX7_exchange 62 = .ok (.bastore, 1) := by decide +kernel
theorem dX7_exchange_63 : decode cX7_exchange 63 = .ok (.aload_n 0, 1) := by decide +kernel
theorem dX7_exchange_64 : decode cX7_exchange 64 = .ok (.getfield 28, 3) := by decide +kernel
theorem dX7_exchange_67 : decode cX7_exchange 67 = .ok (.iload_n 2, 1) := by decide +kernel
theorem dX7_exchange_68 : decode cX7_exchange 68 = .ok (.iload 4, 2) := by decide +kernel
theorem dX7_exchange_70 : decode cX7_exchange 70 = .ok (.bastore, 1) := by decide +kernel
theorem dX7_exchange_71 : decode cX7_exchange 71 = .ok (.iconst 0, 1) := by decide +kernel
theorem dX7_exchange_72 : decode cX7_exchange 72 = .ok (.istore 5, 2) := by decide +kernel
theorem dX7_exchange_74 : decode cX7_exchange 74 = .ok (.iload 5, 2) := by decide +kernel
theorem dX7_exchange_76 : decode cX7_exchange 76 = .ok (.aload_n 0, 1) := by decide +kernel
theorem dX7_exchange_77 : decode cX7_exchange 77 = .ok (.invokevirtual 48, 3) := by decide +kernel
theorem dX7_exchange_80 : decode cX7_exchange 80 = .ok (.if_icmp .ge 50, 3) := by decide +kernel
theorem dX7_exchange_83 : decode cX7_exchange 83 = .ok (.aload_n 0, 1) := by decide +kernel
theorem dX7_exchange_84 : decode cX7_exchange 84 = .ok (.getfield 39, 3) := by decide +kernel
theorem dX7_exchange_87 : decode cX7_exchange 87 = .ok (.iload 5, 2) := by decide +kernel
theorem dX7_exchange_89 : decode cX7_exchange 89 = .ok (.iaload, 1) := by decide +kernel
theorem dX7_exchange_90 : decode cX7_exchange 90 = .ok (.iload_n 1, 1) := by decide +kernel
theorem dX7_exchange_91 : decode cX7_exchange 91 = .ok (.if_icmp .ne 14, 3) := by decide +kernel
theorem dX7_exchange_94 : decode cX7_exchange 94 = .ok (.aload_n 0, 1) := by decide +kernel
theorem dX7_exchange_95 : decode cX7_exchange 95 = .ok (.getfield 39, 3) := by decide +kernel
theorem dX7_exchange_98 : decode cX7_exchange 98 = .ok (.iload 5, 2) := by decide +kernel
theorem dX7_exchange_100 : decode cX7_exchange 100 = .ok (.iload_n 2, 1) := by decide +kernel
theorem dX7_exchange_101 : decode cX7_exchange 101 = .ok (.iastore, 1) := by decide +kernel
theorem dX7_exchange_102 : decode cX7_exchange 102 = .ok (.goto 22, 3) := by decide +kernel
theorem dX7_exchange_105 : decode cX7_exchange 105 = .ok (.aload_n 0, 1) := by decide +kernel
theorem dX7_exchange_106 : decode cX7_exchange 106 = .ok (.getfield 39, 3) := by decide +kernel
theorem dX7_exchange_109 : decode cX7_exchange 109 = .ok (.iload 5, 2) := by decide +kernel
theorem dX7_exchange_111 : decode cX7_exchange 111 = .ok (.iaload, 1) := by decide +kernel
theorem dX7_exchange_112 : decode cX7_exchange 112 = .ok (.iload_n 2, 1) := by decide +kernel
theorem dX7_exchange_113 : decode cX7_exchange 113 = .ok (.if_icmp .ne 11, 3) := by decide +kernel
theorem dX7_exchange_116 : decode cX7_exchange 116 = .ok (.aload_n 0, 1) := by decide +kernel
theorem dX7_exchange_117 : decode cX7_exchange 117 = .ok (.getfield 39, 3) := by decide +kernel
theorem dX7_exchange_120 : decode cX7_exchange 120 = .ok (.iload 5, 2) := by decide +kernel
theorem dX7_exchange_122 : decode cX7_exchange 122 = .ok (.iload_n 1, 1) := by decide +kernel
theorem dX7_exchange_123 : decode cX7_exchange 123 = .ok (.iastore, 1) := by decide +kernel
theorem dX7_exchange_124 : decode cX7_exchange 124 = .ok (.iinc 5 1, 3) := by decide +kernel
theorem dX7_exchange_127 : decode cX7_exchange 127 = .ok (.goto (-53), 3) := by decide +kernel
theorem dX7_exchange_130 : decode cX7_exchange 130 = .ok (.return_, 1) := by decide +kernel
theorem dX7_distance_0 : decode cX7_distance 0 = .ok (.iload_n 1, 1) := by decide +kernel
theorem dX7_distance_1 : decode cX7_distance 1 = .ok (.bipush 16, 2) := by decide +kernel
theorem dX7_distance_3 : decode cX7_distance 3 = .ok (.ishr, 1) := by decide +kernel
theorem dX7_distance_4 : decode cX7_distance 4 = .ok (.iload_n 2, 1) := by decide +kernel
theorem dX7_distance_5 : decode cX7_distance 5 = .ok (.bipush 16, 2) := by decide +kernel
theorem dX7_distance_7 : decode cX7_distance 7 = .ok (.ishr, 1) := by decide +kernel
theorem dX7_distance_8 : decode cX7_distance 8 = .ok (.isub, 1) := by decide +kernel
theorem dX7_distance_9 : decode cX7_distance 9 = .ok (.istore_n 3, 1) := by decide +kernel
theorem dX7_distance_10 : decode cX7_distance 10 = .ok (.iload_n 1, 1) := by decide +kernel
theorem dX7_distance_11 : decode cX7_distance 11 = .ok (.bipush 8, 2) := by decide +kernel
theorem dX7_distance_13 : decode cX7_distance 13 = .ok (.ishr, 1) := by decide +kernel
theorem dX7_distance_14 : decode cX7_distance 14 = .ok (.sipush 255, 3) := by decide +kernel
theorem dX7_distance_17 : decode cX7_distance 17 = .ok (.iand, 1) := by decide +kernel
theorem dX7_distance_18 : decode cX7_distance 18 = .ok (.iload_n 2, 1) := by decide +kernel
theorem dX7_distance_19 : decode cX7_distance 19 = .ok (.bipush 8, 2) := by decide +kernel
theorem dX7_distance_21 : decode cX7_distance 21 = .ok (.ishr, 1) := by decide +kernel
theorem dX7_distance_22 : decode cX7_distance 22 = .ok (.sipush 255, 3) := by decide +kernel
theorem dX7_distance_25 : decode cX7_distance 25 = .ok (.iand, 1) := by decide +kernel
theorem dX7_distance_26 : decode cX7_distance 26 = .ok (.isub, 1) := by decide +kernel
theorem dX7_distance_27 : decode cX7_distance 27 = .ok (.istore 4, 2) := by decide +kernel
theorem dX7_distance_29 : decode cX7_distance 29 = .ok (.iload_n 1, 1) := by decide +kernel
theorem dX7_distance_30 : decode cX7_distance 30 = .ok (.sipush 255, 3) := by decide +kernel
theorem dX7_distance_33 : decode cX7_distance 33 = .ok (.iand, 1) := by decide +kernel
theorem dX7_distance_34 : decode cX7_distance 34 = .ok (.iload_n 2, 1) := by decide +kernel
theorem dX7_distance_35 : decode cX7_distance 35 = .ok (.sipush 255, 3) := by decide +kernel
theorem dX7_distance_38 : decode cX7_distance 38 = .ok (.iand, 1) := by decide +kernel
theorem dX7_distance_39 : decode cX7_distance 39 = .ok (.isub, 1) := by decide +kernel
theorem dX7_distance_40 : decode cX7_distance 40 = .ok (.istore 5, 2) := by decide +kernel
theorem dX7_distance_42 : decode cX7_distance 42 = .ok (.aload_n 0, 1) := by decide +kernel
theorem dX7_distance_43 : decode cX7_distance 43 = .ok (.getfield 32, 3) := by decide +kernel
theorem dX7_distance_46 : decode cX7_distance 46 = .ok (.ifCond .ne 19, 3) := by decide +kernel
theorem dX7_distance_49 : decode cX7_distance 49 = .ok (.iload_n 3, 1) := by decide +kernel
theorem dX7_distance_50 : decode cX7_distance 50 = .ok (.iload_n 3, 1) := by decide +kernel
theorem dX7_distance_51 : decode cX7_distance 51 = .ok (.imul, 1) := by decide +kernel
theorem dX7_distance_52 : decode cX7_distance 52 = .ok (.iload 4, 2) := by decide +kernel
theorem dX7_distance_54 : decode cX7_distance 54 = .ok (.iload 4, 2) := by decide +kernel
theorem dX7_distance_56 : decode cX7_distance 56 = .ok (.imul, 1) := by decide +kernel
theorem dX7_distance_57 : decode cX7_distance 57 = .ok (.iadd, 1) := by decide +kernel
theorem dX7_distance_58 : decode cX7_distance 58 = .ok (.iload 5, 2) := by decide +kernel
theorem dX7_distance_60 : decode cX7_distance 60 = .ok (.iload 5, 2) := by decide +kernel
theorem dX7_distance_62 : decode cX7_distance 62 = .ok (.imul, 1) := by decide +kernel
theorem dX7_distance_63 : decode cX7_distance 63 = .ok (.iadd, 1) := by decide +kernel
theorem dX7_distance_64 : decode cX7_distance 64 = .ok (.ireturn, 1) := by decide +kernel
theorem dX7_distance_65 : decode cX7_distance 65 = .ok (.iconst 2, 1) := by decide +kernel
theorem dX7_distance_66 : decode cX7_distance 66 = .ok (.iload_n 3, 1) := by decide +kernel
theorem dX7_distance_67 : decode cX7_distance 67 = .ok (.imul, 1) := by decide +kernel
theorem dX7_distance_68 : decode cX7_distance 68 = .ok (.iload_n 3, 1) := by decide +kernel
theorem dX7_distance_69 : decode cX7_distance 69 = .ok (.imul, 1) := by decide +kernel
theorem dX7_distance_70 : decode cX7_distance 70 = .ok (.iconst 4, 1) := by decide +kernel
theorem dX7_distance_71 : decode cX7_distance 71 = .ok (.iload 4, 2) := by decide +kernel
theorem dX7_distance_73 : decode cX7_distance 73 = .ok (.imul, 1) := by decide +kernel
theorem dX7_distance_74 : decode cX7_distance 74 = .ok (.iload 4, 2) := by decide +kernel
theorem dX7_distance_76 : decode cX7_distance 76 = .ok (.imul, 1) := by decide +kernel
theorem dX7_distance_77 : decode cX7_distance 77 = .ok (.iadd, 1) := by decide +kernel
theorem dX7_distance_78 : decode cX7_distance 78 = .ok (.iconst 3, 1) := by decide +kernel
theorem dX7_distance_79 : decode cX7_distance 79 = .ok (.iload 5, 2) := by decide +kernel
theorem dX7_distance_81 : decode cX7_distance 81 = .ok (.imul, 1) := by decide +kernel
theorem dX7_distance_82 : decode cX7_distance 82 = .ok (.iload 5, 2) := by decide +kernel
theorem dX7_distance_84 : decode cX7_distance 84 = .ok (.imul, 1) := by decide +kernel
theorem dX7_distance_85 : decode cX7_distance 85 = .ok (.iadd, 1) := by decide +kernel
theorem dX7_distance_86 : decode cX7_distance 86 = .ok (.ireturn, 1) := by decide +kernel
theorem dX7_closestEntry_0 : decode cX7_closestEntry 0 = .ok (.iconst (-1), 1) := by decide +kernel
theorem dX7_closestEntry_1 : decode cX7_closestEntry 1 = .ok (.istore_n 2, 1) := by decide +kernel
theorem dX7_closestEntry_2 : decode cX7_closestEntry 2 = .ok (.ldc 86, 2) := by decide +kernel
theorem dX7_closestEntry_4 : decode cX7_closestEntry 4 = .ok (.istore_n 3, 1) := by decide +kernel
theorem dX7_closestEntry_5 : decode cX7_closestEntry 5 = .ok (.iconst 0, 1) := by decide +kernel
theorem dX7_closestEntry_6 : decode cX7_closestEntry 6 = .ok (.istore 4, 2) := by decide +kernel
theorem dX7_closestEntry_8 : decode cX7_closestEntry 8 = .ok (.iload 4, 2) := by decide +kernel
theorem dX7_closestEntry_10 : decode cX7_closestEntry 10 = .ok (.aload_n 0, 1) := by decide +kernel
theorem dX7_closestEntry_11 : decode cX7_closestEntry 11 = .ok (.getfield 22, 3) := by decide +kernel
theorem dX7_closestEntry_14 : decode cX7_closestEntry 14 = .ok (.if_icmp .ge 35, 3) := by decide +kernel
theorem dX7_closestEntry_17 : decode cX7_closestEntry 17 = .ok (.aload_n 0, 1) := by decide +kernel
theorem dX7_closestEntry_18 : decode cX7_closestEntry 18 = .ok (.iload_n 1, 1) := by decide +kernel
theorem dX7_closestEntry_19 : decode cX7_closestEntry 19 = .ok (.aload_n 0, 1) := by decide +kernel
theorem dX7_closestEntry_20 : decode cX7_closestEntry 20 = .ok (.getfield 25, 3) := by decide +kernel
theorem dX7_closestEntry_23 : decode cX7_closestEntry 23 = .ok (.iload 4, 2) := by decide +kernel
theorem dX7_closestEntry_25 : decode cX7_closestEntry 25 = .ok (.iaload, 1) := by decide +kernel
theorem dX7_closestEntry_26 : decode cX7_closestEntry 26 = .ok (.invokevirtual 87, 3) := by decide +kernel
theorem dX7_closestEntry_29 : decode cX7_closestEntry 29 = .ok (.istore 5, 2) := by decide +kernel
theorem dX7_closestEntry_31 : decode cX7_closestEntry 31 = .ok (.iload 5, 2) := by decide +kernel
theorem dX7_closestEntry_33 : decode cX7_closestEntry 33 = .ok (.iload_n 3, 1) := by decide +kernel
theorem dX7_closestEntry_34 : decode cX7_closestEntry 34 = .ok (.if_icmp .ge 9, 3) := by decide +kernel
theorem dX7_closestEntry_37 : decode cX7_closestEntry 37 = .ok (.iload 4, 2) := by decide +kernel
theorem dX7_closestEntry_39 : decode cX7_closestEntry 39 = .ok (.istore_n 2, 1) := by decide +kernel
theorem dX7_closestEntry_40 : decode cX7_closestEntry 40 = .ok (.iload 5, 2) := by decide +kernel
theorem dX7_closestEntry_42 : decode cX7_closestEntry 42 = .ok (.istore_n 3, 1) := by decide +kernel
theorem dX7_closestEntry_43 : decode cX7_closestEntry 43 = .ok (.iinc 4 1, 3) := by decide +kernel
theorem dX7_closestEntry_46 : decode cX7_closestEntry 46 = .ok (.goto (-38), 3) := by decide +kernel
theorem dX7_closestEntry_49 : decode cX7_closestEntry 49 = .ok (.iload_n 2, 1) := by decide +kernel
theorem dX7_closestEntry_50 : decode cX7_closestEntry 50 = .ok (.ireturn, 1) := by decide +kernel
theorem dX7_timesIndexed_0 : decode cX7_timesIndexed 0 = .ok (.iconst 0, 1) := by decide +kernel
theorem dX7_timesIndexed_1 : decode cX7_timesIndexed 1 = .ok (.istore_n 2, 1) := by decide +kernel
theorem dX7_timesIndexed_2 : decode cX7_timesIndexed 2 = .ok (.iconst 0, 1) := by decide +kernel
theorem dX7_timesIndexed_3 : decode cX7_timesIndexed 3 = .ok (.istore_n 3, 1) := by decide +kernel
theorem dX7_timesIndexed_4 : decode cX7_timesIndexed 4 = .ok (.aload_n 0, 1) := by decide +kernel
theorem dX7_timesIndexed_5 : decode cX7_timesIndexed 5 = .ok (.getfield 35, 3) := by decide +kernel
theorem dX7_timesIndexed_8 : decode cX7_timesIndexed 8 = .ok (.ifCond .eq 30, 3) := by decide +kernel
theorem dX7_timesIndexed_11 : decode cX7_timesIndexed 11 = .ok (.iload_n 3, 1) := by decide +kernel
theorem dX7_timesIndexed_12 : decode cX7_timesIndexed 12 = .ok (.aload_n 0, 1) := by decide +kernel
theorem dX7_timesIndexed_13 : decode cX7_timesIndexed 13 = .ok (.invokevirtual 48, 3) := by decide +kernel
theorem dX7_timesIndexed_16 : decode cX7_timesIndexed 16 = .ok (.if_icmp .ge 22, 3) := by decide +kernel
theorem dX7_timesIndexed_19 : decode cX7_timesIndexed 19 = .ok (.aload_n 0, 1) := by decide +kernel
theorem dX7_timesIndexed_20 : decode cX7_timesIndexed 20 = .ok (.getfield 39, 3) := by decide +kernel
theorem dX7_timesIndexed_23 : decode cX7_timesIndexed 23 = .ok (.iload_n 3, 1) := by decide +kernel
theorem dX7_timesIndexed_24 : decode cX7_timesIndexed 24 = .ok (.iaload, 1) := by decide +kernel
theorem dX7_timesIndexed_25 : decode cX7_timesIndexed 25 = .ok (.iload_n 1, 1) := by decide +kernel
theorem dX7_timesIndexed_26 : decode cX7_timesIndexed 26 = .ok (.if_icmp .ne 6, 3) := by decide +kernel
theorem dX7_timesIndexed_29 : decode cX7_timesIndexed 29 = .ok (.iinc 2 1, 3) := by decide +kernel
theorem dX7_timesIndexed_32 : decode cX7_timesIndexed 32 = .ok (.iinc 3 1, 3) := by decide +kernel
theorem dX7_timesIndexed_35 : decode cX7_timesIndexed 35 = .ok (.goto (-31), 3) := by decide +kernel
theorem dX7_timesIndexed_38 : decode cX7_timesIndexed 38 = .ok (.iload_n 2, 1) := by decide +kernel
theorem dX7_timesIndexed_39 : decode cX7_timesIndexed 39 = .ok (.ireturn, 1) := by decide +kernel
theorem dX7_usedEntries_0 : decode cX7_usedEntries 0 = .ok (.iconst 0, 1) := by decide +kernel
theorem dX7_usedEntries_1 : decode cX7_usedEntries 1 = .ok (.istore_n 1, 1) := by decide +kernel
theorem dX7_usedEntries_2 : decode cX7_usedEntries 2 = .ok (.iconst 0, 1) := by decide +kernel
theorem dX7_usedEntries_3 : decode cX7_usedEntries 3 = .ok (.istore_n 2, 1) := by decide +kernel
theorem dX7_usedEntries_4 : decode cX7_usedEntries 4 = .ok (.iload_n 2, 1) := by decide +kernel
theorem dX7_usedEntries_5 : decode cX7_usedEntries 5 = .ok (.aload_n 0, 1) := by decide +kernel
theorem dX7_usedEntries_6 : decode cX7_usedEntries 6 = .ok (.getfield 22, 3) := by decide +kernel
theorem dX7_usedEntries_9 : decode cX7_usedEntries 9 = .ok (.if_icmp .ge 20, 3) := by decide +kernel
theorem dX7_usedEntries_12 : decode cX7_usedEntries 12 = .ok (.aload_n 0, 1) := by decide +kernel
theorem dX7_usedEntries_13 : decode cX7_usedEntries 13 = .ok (.iload_n 2, 1) := by decide +kernel
theorem dX7_usedEntries_14 : decode cX7_usedEntries 14 = .ok (.invokevirtual 90, 3) := by decide +kernel
theorem dX7_usedEntries_17 : decode cX7_usedEntries 17 = .ok (.ifCond .le 6, 3) := by decide +kernel
theorem dX7_usedEntries_20 : decode cX7_usedEntries 20 = .ok (.iinc 1 1, 3) := by decide +kernel
theorem dX7_usedEntries_23 : decode cX7_usedEntries 23 = .ok (.iinc 2 1, 3) := by decide +kernel
theorem dX7_usedEntries_26 : decode cX7_usedEntries 26 = .ok (.goto (-22), 3) := by decide +kernel
theorem dX7_usedEntries_29 : decode cX7_usedEntries 29 = .ok (.iload_n 1, 1) := by decide +kernel
theorem dX7_usedEntries_30 : decode cX7_usedEntries 30 = .ok (.ireturn, 1) := by decide +kernel
theorem dX7_errorAt_0 : decode cX7_errorAt 0 = .ok (.aload_n 0, 1) := by decide +kernel
theorem dX7_errorAt_1 : decode cX7_errorAt 1 = .ok (.aload_n 0, 1) := by decide +kernel
theorem dX7_errorAt_2 : decode cX7_errorAt 2 = .ok (.getfield 39, 3) := by decide +kernel
theorem dX7_errorAt_5 : decode cX7_errorAt 5 = .ok (.iload_n 1, 1) := by decide +kernel
theorem dX7_errorAt_6 : decode cX7_errorAt 6 = .ok (.iaload, 1) := by decide +kernel
theorem dX7_errorAt_7 : decode cX7_errorAt 7 = .ok (.invokevirtual 79, 3) := by decide +kernel
theorem dX7_errorAt_10 : decode cX7_errorAt 10 = .ok (.ifCond .eq 27, 3) := by decide +kernel
theorem dX7_errorAt_13 : decode cX7_errorAt 13 = .ok (.aload_n 0, 1) := by decide +kernel
theorem dX7_errorAt_14 : decode cX7_errorAt 14 = .ok (.aload_n 0, 1) := by decide +kernel
theorem dX7_errorAt_15 : decode cX7_errorAt 15 = .ok (.getfield 18, 3) := by decide +kernel
theorem dX7_errorAt_18 : decode cX7_errorAt 18 = .ok (.iload_n 1, 1) := by decide +kernel
theorem dX7_errorAt_19 : decode cX7_errorAt 19 = .ok (.iaload, 1) := by decide +kernel
theorem dX7_errorAt_20 : decode cX7_errorAt 20 = .ok (.aload_n 0, 1) := by decide +kernel
theorem dX7_errorAt_21 : decode cX7_errorAt 21 = .ok (.getfield 25, 3) := by decide +kernel
theorem dX7_errorAt_24 : decode cX7_errorAt 24 = .ok (.aload_n 0, 1) := by decide +kernel
theorem dX7_errorAt_25 : decode cX7_errorAt 25 = .ok (.getfield 39, 3) := by decide +kernel
theorem dX7_errorAt_28 : decode cX7_errorAt 28 = .ok (.iload_n 1, 1) := by decide +kernel
theorem dX7_errorAt_29 : decode cX7_errorAt 29 = .ok (.iaload, 1) := by decide +kernel
theorem dX7_errorAt_30 : decode cX7_errorAt 30 = .ok (.iaload, 1) := by decide +kernel
theorem dX7_errorAt_31 : decode cX7_errorAt 31 = .ok (.invokevirtual 87, 3) := by decide +kernel
theorem dX7_errorAt_34 : decode cX7_errorAt 34 = .ok (.goto 4, 3) := by decide +kernel
theorem dX7_errorAt_37 : decode cX7_errorAt 37 = .ok (.iconst 0, 1) := by decide +kernel
theorem dX7_errorAt_38 : decode cX7_errorAt 38 = .ok (.ireturn, 1) := by decide +kernel
theorem dX8_init_0 : decode cX8_init 0 = .ok (.aload_n 0, 1) := by decide +kernel
theorem dX8_init_1 : decode cX8_init 1 = .ok (.invokespecial 3, 3) := by decide +kernel
theorem dX8_init_4 : decode cX8_init 4 = .ok (.aload_n 0, 1) := by decide +kernel
theorem dX8_init_5 : decode cX8_init 5 = .ok (.sipush 256, 3) := by decide +kernel
theorem dX8_init_8 : decode cX8_init 8 = .ok (.newarray .int, 2) := by decide +kernel
theorem dX8_init_10 : decode cX8_init 10 = .ok (.putfield 9, 3) := by decide +kernel
theorem dX8_init_13 : decode cX8_init 13 = .ok (.aload_n 0, 1) := by decide +kernel
theorem dX8_init_14 : decode cX8_init 14 = .ok (.sipush 256, 3) := by decide +kernel
theorem dX8_init_17 : decode cX8_init 17 = .ok (.newarray .int, 2) := by decide +kernel
theorem dX8_init_19 : decode cX8_init 19 = .ok (.putfield 15, 3) := by decide +kernel
theorem dX8_init_22 : decode cX8_init 22 = .ok (.aload_n 0, 1) := by decide +kernel
theorem dX8_init_23 : decode cX8_init 23 = .ok (.bipush 16, 2) := by decide +kernel
theorem dX8_init_25 : decode cX8_init 25 = .ok (.newarray .int, 2) := by decide +kernel
theorem dX8_init_27 : decode cX8_init 27 = .ok (.putfield 18, 3) := by decide +kernel
theorem dX8_init_30 : decode cX8_init 30 = .ok (.aload_n 0, 1) := by decide +kernel
theorem dX8_init_31 : decode cX8_init 31 = .ok (.bipush 16, 2) := by decide +kernel
theorem dX8_init_33 : decode cX8_init 33 = .ok (.newarray .int, 2) := by decide +kernel
theorem dX8_init_35 : decode cX8_init 35 = .ok (.putfield 21, 3) := by decide +kernel
theorem dX8_init_38 : decode cX8_init 38 = .ok (.aload_n 0, 1) := by decide +kernel
theorem dX8_init_39 : decode cX8_init 39 = .ok (.iconst 0, 1) := by decide +kernel
theorem dX8_init_40 : decode cX8_init 40 = .ok (.putfield 24, 3) := by decide +kernel
theorem dX8_init_43 : decode cX8_init 43 = .ok (.aload_n 0, 1) := by decide +kernel
theorem dX8_init_44 : decode cX8_init 44 = .ok (.aload_n 1, 1) := by decide +kernel
theorem dX8_init_45 : decode cX8_init 45 = .ok (.putfield 28, 3) := by decide +kernel
theorem dX8_init_48 : decode cX8_init 48 = .ok (.return_, 1) := by decide +kernel
theorem dX8_takeStock_0 : decode cX8_takeStock 0 = .ok (.aload_n 0, 1) := by decide +kernel
theorem dX8_takeStock_1 : decode cX8_takeStock 1 = .ok (.iconst 0, 1) := by decide +kernel
theorem dX8_takeStock_2 : decode cX8_takeStock 2 = .ok (.putfield 24, 3) := by decide +kernel
theorem dX8_takeStock_5 : decode cX8_takeStock 5 = .ok (.iconst 0, 1) := by decide +kernel
theorem dX8_takeStock_6 : decode cX8_takeStock 6 = .ok (.istore_n 1, 1) := by decide +kernel
theorem dX8_takeStock_7 : decode cX8_takeStock 7 = .ok (.iload_n 1, 1) := by decide +kernel
theorem dX8_takeStock_8 : decode cX8_takeStock 8 = .ok (.bipush 16, 2) := by decide +kernel
theorem dX8_takeStock_10 : decode cX8_takeStock 10 = .ok (.if_icmp .ge 23, 3) := by decide +kernel
theorem dX8_takeStock_13 : decode cX8_takeStock 13 = .ok (.aload_n 0, 1) := by decide +kernel
theorem dX8_takeStock_14 : decode cX8_takeStock 14 = .ok (.getfield 18, 3) := by decide +kernel
theorem dX8_takeStock_17 : decode cX8_takeStock 17 = .ok (.iload_n 1, 1) := by decide +kernel
theorem dX8_takeStock_18 : decode cX8_takeStock 18 = .ok (.iconst 0, 1) := by decide +kernel
theorem dX8_takeStock_19 : decode cX8_takeStock 19 = .ok (.iastore, 1) := by decide +kernel
theorem dX8_takeStock_20 : decode cX8_takeStock 20 = .ok (.aload_n 0, 1) := by decide +kernel
theorem dX8_takeStock_21 : decode cX8_takeStock 21 = .ok (.getfield 21, 3) := by decide +kernel
theorem dX8_takeStock_24 : decode cX8_takeStock 24 = .ok (.iload_n 1, 1) := by decide +kernel
theorem dX8_takeStock_25 : decode cX8_takeStock 25 = .ok (.iconst 0, 1) := by decide +kernel
theorem dX8_takeStock_26 : decode cX8_takeStock 26 = .ok (.iastore, 1) := by decide +kernel
theorem dX8_takeStock_27 : decode cX8_takeStock 27 = .ok (.iinc 1 1, 3) := by decide +kernel
theorem dX8_takeStock_30 : decode cX8_takeStock 30 = .ok (.goto (-23), 3) := by decide +kernel
theorem dX8_takeStock_33 : decode cX8_takeStock 33 = .ok (.iconst 0, 1) := by decide +kernel
theorem dX8_takeStock_34 : decode cX8_takeStock 34 = .ok (.istore_n 1, 1) := by decide +kernel
theorem dX8_takeStock_35 : decode cX8_takeStock 35 = .ok (.iload_n 1, 1) := by decide +kernel
theorem dX8_takeStock_36 : decode cX8_takeStock 36 = .ok (.aload_n 0, 1) := by decide +kernel
theorem dX8_takeStock_37 : decode cX8_takeStock 37 = .ok (.getfield 28, 3) := by decide +kernel
theorem dX8_takeStock_40 : decode cX8_takeStock 40 = .ok (.invokevirtual 32, 3) := by decide +kernel
theorem dX8_takeStock_43 : decode cX8_takeStock 43 = .ok (.if_icmp .ge 49, 3) := by decide +kernel
theorem dX8_takeStock_46 : decode cX8_takeStock 46 = .ok (.aload_n 0, 1) := by decide +kernel
theorem dX8_takeStock_47 : decode cX8_takeStock 47 = .ok (.getfield 9, 3) := by decide +kernel
theorem dX8_takeStock_50 : decode cX8_takeStock 50 = .ok (.iload_n 1, 1) := by decide +kernel
theorem dX8_takeStock_51 : decode cX8_takeStock 51 = .ok (.iconst (-1), 1) := by decide +kernel
theorem dX8_takeStock_52 : decode cX8_takeStock 52 = .ok (.iastore, 1) := by decide +kernel
theorem dX8_takeStock_53 : decode cX8_takeStock 53 = .ok (.aload_n 0, 1) := by decide +kernel
theorem dX8_takeStock_54 : decode cX8_takeStock 54 = .ok (.getfield 15, 3) := by decide +kernel
theorem dX8_takeStock_57 : decode cX8_takeStock 57 = .ok (.iload_n 1, 1) := by decide +kernel
theorem dX8_takeStock_58 : decode cX8_takeStock 58 = .ok (.iconst 0, 1) := by decide +kernel
theorem dX8_takeStock_59 : decode cX8_takeStock 59 = .ok (.iastore, 1) := by decide +kernel
theorem dX8_takeStock_60 : decode cX8_takeStock 60 = .ok (.aload_n 0, 1) := by decide +kernel
theorem dX8_takeStock_61 : decode cX8_takeStock 61 = .ok (.getfield 28, 3) := by decide +kernel
theorem dX8_takeStock_64 : decode cX8_takeStock 64 = .ok (.iload_n 1, 1) := by decide +kernel
theorem dX8_takeStock_65 : decode cX8_takeStock 65 = .ok (.invokevirtual 38, 3) := by decide +kernel
theorem dX8_takeStock_68 : decode cX8_takeStock 68 = .ok (.ifCond .eq 18, 3) := by decide +kernel
theorem dX8_takeStock_71 : decode cX8_takeStock 71 = .ok (.aload_n 0, 1) := by decide +kernel
theorem dX8_takeStock_72 : decode cX8_takeStock 72 = .ok (.getfield 28, 3) := by decide +kernel
theorem dX8_takeStock_75 : decode cX8_takeStock 75 = .ok (.getfield 42, 3) := by decide +kernel
theorem dX8_takeStock_78 : decode cX8_takeStock 78 = .ok (.ifCond .le 8, 3) := by decide +kernel
theorem dX8_takeStock_81 : decode cX8_takeStock 81 = .ok (.aload_n 0, 1) := by decide +kernel
theorem dX8_takeStock_82 : decode cX8_takeStock 82 = .ok (.iload_n 1, 1) := by decide +kernel
theorem dX8_takeStock_83 : decode cX8_takeStock 83 = .ok (.invokevirtual 45, 3) := by decide +kernel
theorem dX8_takeStock_86 : decode cX8_takeStock 86 = .ok (.iinc 1 1, 3) := by decide +kernel
theorem dX8_takeStock_89 : decode cX8_takeStock 89 = .ok (.goto (-54), 3) := by decide +kernel
theorem dX8_takeStock_92 : decode cX8_takeStock 92 = .ok (.return_, 1) := by decide +kernel
theorem dX8_look_0 : decode cX8_look 0 = .ok (.aload_n 0, 1) := by decide +kernel
theorem dX8_look_1 : decode cX8_look 1 = .ok (.getfield 28, 3) := by decide +kernel
theorem dX8_look_4 : decode cX8_look 4 = .ok (.getfield 49, 3) := by decide +kernel
theorem dX8_look_7 : decode cX8_look 7 = .ok (.iload_n 1, 1) := by decide +kernel
theorem dX8_look_8 : decode cX8_look 8 = .ok (.iaload, 1) := by decide +kernel
theorem dX8_look_9 : decode cX8_look 9 = .ok (.istore_n 2, 1) := by decide +kernel
theorem dX8_look_10 : decode cX8_look 10 = .ok (.iconst 0, 1) := by decide +kernel
theorem dX8_look_11 : decode cX8_look 11 = .ok (.istore_n 3, 1) := by decide +kernel
theorem dX8_look_12 : decode cX8_look 12 = .ok (.aload_n 0, 1) := by decide +kernel
theorem dX8_look_13 : decode cX8_look 13 = .ok (.getfield 28, 3) := by decide +kernel
theorem dX8_look_16 : decode cX8_look 16 = .ok (.iload_n 2, 1) := by decide +kernel
theorem dX8_look_17 : decode cX8_look 17 = .ok (.aload_n 0, 1) := by decide +kernel
theorem dX8_look_18 : decode cX8_look 18 = .ok (.getfield 28, 3) := by decide +kernel
theorem dX8_look_21 : decode cX8_look 21 = .ok (.getfield 52, 3) := by decide +kernel
theorem dX8_look_24 : decode cX8_look 24 = .ok (.iconst 0, 1) := by decide +kernel
theorem dX8_look_25 : decode cX8_look 25 = .ok (.iaload, 1) := by decide +kernel
theorem dX8_look_26 : decode cX8_look 26 = .ok (.invokevirtual 55, 3) := by decide +kernel
theorem dX8_look_29 : decode cX8_look 29 = .ok (.istore 4, 2) := by decide +kernel
theorem dX8_look_31 : decode cX8_look 31 = .ok (.ldc 59, 2) := by decide +kernel
theorem dX8_look_33 : decode cX8_look 33 = .ok (.istore 5, 2) := by decide +kernel
theorem dX8_look_35 : decode cX8_look 35 = .ok (.iconst 1, 1) := by decide +kernel
theorem dX8_look_36 : decode cX8_look 36 = .ok (.istore 6, 2) := by decide +kernel
theorem dX8_look_38 : decode cX8_look 38 = .ok (.iload 6, 2) := by decide +kernel
theorem dX8_look_40 : decode cX8_look 40 = .ok (.aload_n 0, 1) := by decide +kernel
theorem dX8_look_41 : decode cX8_look 41 = .ok (.getfield 28, 3) := by decide +kernel
theorem dX8_look_44 : decode cX8_look 44 = .ok (.getfield 42, 3) := by decide +kernel
theorem dX8_look_47 : decode cX8_look 47 = .ok (.if_icmp .ge 61, 3) := by decide +kernel
theorem dX8_look_50 : decode cX8_look 50 = .ok (.aload_n 0, 1) := by decide +kernel
theorem dX8_look_51 : decode cX8_look 51 = .ok (.getfield 28, 3) := by decide +kernel
theorem dX8_look_54 : decode cX8_look 54 = .ok (.iload_n 2, 1) := by decide +kernel
theorem dX8_look_55 : decode cX8_look 55 = .ok (.aload_n 0, 1) := by decide +kernel
theorem dX8_look_56 : decode cX8_look 56 = .ok (.getfield 28, 3) := by decide +kernel
theorem dX8_look_59 : decode cX8_look 59 = .ok (.getfield 52, 3) := by decide +kernel
theorem dX8_look_62 : decode cX8_look 62 = .ok (.iload 6, 2) := by decide +kernel
theorem dX8_look_64 : decode cX8_look 64 = .ok (.iaload, 1) := by decide +kernel
theorem dX8_look_65 : decode cX8_look 65 = .ok (.invokevirtual 55, 3) := by decide +kernel
theorem dX8_look_68 : decode cX8_look 68 = .ok (.istore 7, 2) := by decide +kernel
theorem dX8_look_70 : decode cX8_look 70 = .ok (.iload 7, 2) := by decide +kernel
theorem dX8_look_72 : decode cX8_look 72 = .ok (.iload 4, 2) := by decide +kernel
theorem dX8_look_74 : decode cX8_look 74 = .ok (.if_icmp .ge 17, 3) := by decide +kernel
theorem dX8_look_77 : decode cX8_look 77 = .ok (.iload 4, 2) := by decide +kernel
theorem dX8_look_79 : decode cX8_look 79 = .ok (.istore 5, 2) := by decide +kernel
theorem dX8_look_81 : decode cX8_look 81 = .ok (.iload 7, 2) := by decide +kernel
theorem dX8_look_83 : decode cX8_look 83 = .ok (.istore 4, 2) := by decide +kernel
theorem dX8_look_85 : decode cX8_look 85 = .ok (.iload 6, 2) := by decide +kernel
theorem dX8_look_87 : decode cX8_look 87 = .ok (.istore_n 3, 1) := by decide +kernel
theorem dX8_look_88 : decode cX8_look 88 = .ok (.goto 14, 3) := by decide +kernel
theorem dX8_look_91 : decode cX8_look 91 = .ok (.iload 7, 2) := by decide +kernel
theorem dX8_look_93 : decode cX8_look 93 = .ok (.iload 5, 2) := by decide +kernel
theorem dX8_look_95 : decode cX8_look 95 = .ok (.if_icmp .ge 7, 3) := by decide +kernel
theorem dX8_look_98 : decode cX8_look 98 = .ok (.iload 7, 2) := by decide +kernel
theorem dX8_look_100 : decode cX8_look 100 = .ok (.istore 5, 2) := by decide +kernel
theorem dX8_look_102 : decode cX8_look 102 = .ok (.iinc 6 1, 3) := by decide +kernel
theorem dX8_look_105 : decode cX8_look 105 = .ok (.goto (-67), 3) := by decide +kernel
theorem dX8_look_108 : decode cX8_look 108 = .ok (.aload_n 0, 1) := by decide +kernel
theorem dX8_look_109 : decode cX8_look 109 = .ok (.getfield 9, 3) := by decide +kernel
theorem dX8_look_112 : decode cX8_look 112 = .ok (.iload_n 1, 1) := by decide +kernel
theorem dX8_look_113 : decode cX8_look 113 = .ok (.iload_n 3, 1) := by decide +kernel
theorem dX8_look_114 : decode cX8_look 114 = .ok (.iastore, 1) := by decide +kernel
theorem dX8_look_115 : decode cX8_look 115 = .ok (.aload_n 0, 1) := by decide +kernel
theorem dX8_look_116 : decode cX8_look 116 = .ok (.getfield 15, 3) := by decide +kernel
theorem dX8_look_119 : decode cX8_look 119 = .ok (.iload_n 1, 1) := by decide +kernel
theorem dX8_look_120 : decode cX8_look 120 = .ok (.iload 4, 2) := by decide +kernel
theorem dX8_look_122 : decode cX8_look 122 = .ok (.iastore, 1) := by decide +kernel
theorem dX8_look_123 : decode cX8_look 123 = .ok (.aload_n 0, 1) := by decide +kernel
theorem dX8_look_124 : decode cX8_look 124 = .ok (.getfield 18, 3) := by decide +kernel
theorem dX8_look_127 : decode cX8_look 127 = .ok (.iload_n 3, 1) := by decide +kernel
theorem dX8_look_128 : decode cX8_look 128 = .ok (.dup2, 1) := by decide +kernel
theorem dX8_look_129 : decode cX8_look 129 = .ok (.iaload, 1) := by decide +kernel
theorem dX8_look_130 : decode cX8_look 130 = .ok (.iconst 1, 1) := by decide +kernel
theorem dX8_look_131 : decode cX8_look 131 = .ok (.iadd, 1) := by decide +kernel
theorem dX8_look_132 : decode cX8_look 132 = .ok (.iastore, 1) := by decide +kernel
theorem dX8_look_133 : decode cX8_look 133 = .ok (.aload_n 0, 1) := by decide +kernel
theorem dX8_look_134 : decode cX8_look 134 = .ok (.dup, 1) := by decide +kernel
theorem dX8_look_135 : decode cX8_look 135 = .ok (.getfield 24, 3) := by decide +kernel
theorem dX8_look_138 : decode cX8_look 138 = .ok (.iload 4, 2) := by decide +kernel
theorem dX8_look_140 : decode cX8_look 140 = .ok (.iadd, 1) := by decide +kernel
theorem dX8_look_141 : decode cX8_look 141 = .ok (.putfield 24, 3) := by decide +kernel
theorem dX8_look_144 : decode cX8_look 144 = .ok (.aload_n 0, 1) := by decide +kernel
theorem dX8_look_145 : decode cX8_look 145 = .ok (.getfield 28, 3) := by decide +kernel
theorem dX8_look_148 : decode cX8_look 148 = .ok (.getfield 42, 3) := by decide +kernel
theorem dX8_look_151 : decode cX8_look 151 = .ok (.iconst 1, 1) := by decide +kernel
theorem dX8_look_152 : decode cX8_look 152 = .ok (.if_icmp .le 17, 3) := by decide +kernel
theorem dX8_look_155 : decode cX8_look 155 = .ok (.aload_n 0, 1) := by decide +kernel
theorem dX8_look_156 : decode cX8_look 156 = .ok (.getfield 21, 3) := by decide +kernel
theorem dX8_look_159 : decode cX8_look 159 = .ok (.iload_n 3, 1) := by decide +kernel
theorem dX8_look_160 : decode cX8_look 160 = .ok (.dup2, 1) := by decide +kernel
theorem dX8_look_161 : decode cX8_look 161 = .ok (.iaload, 1) := by decide +kernel
theorem dX8_look_162 : decode cX8_look 162 = .ok (.iload 5, 2) := by decide +kernel
theorem dX8_look_164 : decode cX8_look 164 = .ok (.iload 4, 2) := by decide +kernel
theorem dX8_look_166 : decode cX8_look 166 = .ok (.isub, 1) := by decide +kernel
theorem dX8_look_167 : decode cX8_look 167 = .ok (.iadd, 1) := by decide +kernel
theorem dX8_look_168 : decode cX8_look 168 = .ok (.iastore, 1) := by decide +kernel
theorem dX8_look_169 : decode cX8_look 169 = .ok (.return_, 1) := by decide +kernel
theorem dX8_cheapestEntry_0 : decode cX8_cheapestEntry 0 = .ok (.iconst (-1), 1) := by decide +kernel
theorem dX8_cheapestEntry_1 : decode cX8_cheapestEntry 1 = .ok (.istore_n 1, 1) := by decide +kernel
theorem dX8_cheapestEntry_2 : decode cX8_cheapestEntry 2 = .ok (.iconst 0, 1) := by decide +kernel
theorem dX8_cheapestEntry_3 : decode cX8_cheapestEntry 3 = .ok (.istore_n 2, 1) := by decide +kernel
theorem dX8_cheapestEntry_4 : decode cX8_cheapestEntry 4 = .ok (.iload_n 2, 1) := by decide +kernel
theorem dX8_cheapestEntry_5 : decode cX8_cheapestEntry 5 = .ok (.aload_n 0, 1) := by decide +kernel
theorem dX8_cheapestEntry_6 : decode cX8_cheapestEntry 6 = .ok (.getfield 28, 3) := by decide +kernel
theorem dX8_cheapestEntry_9 : decode cX8_cheapestEntry 9 = .ok (.getfield 42, 3) := by decide +kernel
theorem dX8_cheapestEntry_12 : decode cX8_cheapestEntry 12 = .ok (.if_icmp .ge 46, 3) := by decide +kernel
theorem dX8_cheapestEntry_15 : decode cX8_cheapestEntry 15 = .ok (.aload_n 0, 1) := by decide +kernel
theorem dX8_cheapestEntry_16 : decode cX8_cheapestEntry 16 = .ok (.getfield 28, 3) := by decide +kernel
theorem dX8_cheapestEntry_19 : decode cX8_cheapestEntry 19 = .ok (.getfield 60, 3) := by decide +kernel
theorem dX8_cheapestEntry_22 : decode cX8_cheapestEntry 22 = .ok (.iload_n 2, 1) := by decide +kernel
theorem dX8_cheapestEntry_23 : decode cX8_cheapestEntry 23 = .ok (.baload, 1) := by decide +kernel
theorem dX8_cheapestEntry_24 : decode cX8_cheapestEntry 24 = .ok (.ifCond .eq 6, 3) := by decide +kernel
theorem dX8_cheapestEntry_27 : decode cX8_cheapestEntry 27 = .ok (.goto 25, 3) := by decide +kernel
theorem dX8_cheapestEntry_30 : decode cX8_cheapestEntry 30 = .ok (.iload_n 1, 1) := by decide +kernel
theorem dX8_cheapestEntry_31 : decode cX8_cheapestEntry 31 = .ok (.iconst (-1), 1) := by decide +kernel
theorem dX8_cheapestEntry_32 : decode cX8_cheapestEntry 32 = .ok (.if_icmp .eq 18, 3) := by decide +kernel
theorem dX8_cheapestEntry_35 : decode cX8_cheapestEntry 35 = .ok (.aload_n 0, 1) := by decide +kernel
theorem dX8_cheapestEntry_36 : decode cX8_cheapestEntry 36 = .ok (.getfield 21, 3) := by decide +kernel
theorem dX8_cheapestEntry_39 : decode cX8_cheapestEntry 39 = .ok (.iload_n 2, 1) := by decide +kernel
theorem dX8_cheapestEntry_40 : decode cX8_cheapestEntry 40 = .ok (.iaload, 1) := by decide +kernel
theorem dX8_cheapestEntry_41 : decode cX8_cheapestEntry 41 = .ok (.aload_n 0, 1) := by decide +kernel
theorem dX8_cheapestEntry_42 : decode cX8_cheapestEntry 42 = .ok (.getfield 21, 3) := by decide +kernel
theorem dX8_cheapestEntry_45 : decode cX8_cheapestEntry 45 = .ok (.iload_n 1, 1) := by decide +kernel
theorem dX8_cheapestEntry_46 : decode cX8_cheapestEntry 46 = .ok (.iaload, 1) := by decide +kernel
theorem dX8_cheapestEntry_47 : decode cX8_cheapestEntry 47 = .ok (.if_icmp .ge 5, 3) := by decide +kernel
theorem dX8_cheapestEntry_50 : decode cX8_cheapestEntry 50 = .ok (.iload_n 2, 1) := by decide +kernel
theorem dX8_cheapestEntry_51 : decode cX8_cheapestEntry 51 = .ok (.istore_n 1, 1) := by decide +kernel
theorem dX8_cheapestEntry_52 : decode cX8_cheapestEntry 52 = .ok (.iinc 2 1, 3) := by decide +kernel
theorem dX8_cheapestEntry_55 : decode cX8_cheapestEntry 55 = .ok (.goto (-51), 3) := by decide +kernel
theorem dX8_cheapestEntry_58 : decode cX8_cheapestEntry 58 = .ok (.iload_n 1, 1) := by decide +kernel
theorem dX8_cheapestEntry_59 : decode cX8_cheapestEntry 59 = .ok (.ireturn, 1) := by decide +kernel
theorem dX8_gainOf_0 : decode cX8_gainOf 0 = .ok (.iconst 0, 1) := by decide +kernel
theorem dX8_gainOf_1 : decode cX8_gainOf 1 = .ok (.istore_n 2, 1) := by decide +kernel
theorem dX8_gainOf_2 : decode cX8_gainOf 2 = .ok (.iconst 0, 1) := by decide +kernel
theorem dX8_gainOf_3 : decode cX8_gainOf 3 = .ok (.istore_n 3, 1) := by decide +kernel
theorem dX8_gainOf_4 : decode cX8_gainOf 4 = .ok (.iload_n 3, 1) := by decide +kernel
theorem dX8_gainOf_5 : decode cX8_gainOf 5 = .ok (.aload_n 0, 1) := by decide +kernel
theorem dX8_gainOf_6 : decode cX8_gainOf 6 = .ok (.getfield 28, 3) := by decide +kernel
theorem dX8_gainOf_9 : decode cX8_gainOf 9 = .ok (.invokevirtual 32, 3) := by decide +kernel
theorem dX8_gainOf_12 : decode cX8_gainOf 12 = .ok (.if_icmp .ge 51, 3) := by decide +kernel
theorem dX8_gainOf_15 : decode cX8_gainOf 15 = .ok (.aload_n 0, 1) := by decide +kernel
theorem dX8_gainOf_16 : decode cX8_gainOf 16 = .ok (.getfield 28, 3) := by decide +kernel
theorem dX8_gainOf_19 : decode cX8_gainOf 19 = .ok (.iload_n 3, 1) := by decide +kernel
theorem dX8_gainOf_20 : decode cX8_gainOf 20 = .ok (.invokevirtual 38, 3) := by decide +kernel
theorem dX8_gainOf_23 : decode cX8_gainOf 23 = .ok (.ifCond .eq 34, 3) := by decide +kernel
theorem dX8_gainOf_26 : decode cX8_gainOf 26 = .ok (.iload_n 2, 1) := by decide +kernel
theorem dX8_gainOf_27 : decode cX8_gainOf 27 = .ok (.iconst 0, 1) := by decide +kernel
theorem dX8_gainOf_28 : decode cX8_gainOf 28 = .ok (.aload_n 0, 1) := by decide +kernel
theorem dX8_gainOf_29 : decode cX8_gainOf 29 = .ok (.getfield 15, 3) := by decide +kernel
theorem dX8_gainOf_32 : decode cX8_gainOf 32 = .ok (.iload_n 3, 1) := by decide +kernel
theorem dX8_gainOf_33 : decode cX8_gainOf 33 = .ok (.iaload, 1) := by decide +kernel
theorem dX8_gainOf_34 : decode cX8_gainOf 34 = .ok (.aload_n 0, 1) := by decide +kernel
theorem dX8_gainOf_35 : decode cX8_gainOf 35 = .ok (.getfield 28, 3) := by decide +kernel
theorem dX8_gainOf_38 : decode cX8_gainOf 38 = .ok (.aload_n 0, 1) := by decide +kernel
theorem dX8_gainOf_39 : decode cX8_gainOf 39 = .ok (.getfield 28, 3) := by decide +kernel
theorem dX8_gainOf_42 : decode cX8_gainOf 42 = .ok (.getfield 49, 3) := by decide +kernel
theorem dX8_gainOf_45 : decode cX8_gainOf 45 = .ok (.iload_n 3, 1) := by decide +kernel
theorem dX8_gainOf_46 : decode cX8_gainOf 46 = .ok (.iaload, 1) := by decide +kernel
theorem dX8_gainOf_47 : decode cX8_gainOf 47 = .ok (.iload_n 1, 1) := by decide +kernel
theorem dX8_gainOf_48 : decode cX8_gainOf 48 = .ok (.invokevirtual 55, 3) := by decide +kernel
theorem dX8_gainOf_51 : decode cX8_gainOf 51 = .ok (.isub, 1) := by decide +kernel
theorem dX8_gainOf_52 : decode cX8_gainOf 52 = .ok (.invokestatic 64, 3) := by decide +kernel
theorem dX8_gainOf_55 : decode cX8_gainOf 55 = .ok (.iadd, 1) := by decide +kernel
theorem dX8_gainOf_56 : decode cX8_gainOf 56 = .ok (.istore_n 2, 1) := by decide +kernel
theorem dX8_gainOf_57 : decode cX8_gainOf 57 = .ok (.iinc 3 1, 3) := by decide +kernel
theorem dX8_gainOf_60 : decode cX8_gainOf 60 = .ok (.goto (-56), 3) := by decide +kernel
theorem dX8_gainOf_63 : decode cX8_gainOf 63 = .ok (.iload_n 2, 1) := by decide +kernel
theorem dX8_gainOf_64 : decode cX8_gainOf 64 = .ok (.ireturn, 1) := by decide +kernel
theorem dX9_init_0 : decode cX9_init 0 = .ok (.aload_n 0, 1) := by decide +kernel
theorem dX9_init_1 : decode cX9_init 1 = .ok (.invokespecial 3, 3) := by decide +kernel
theorem dX9_init_4 : decode cX9_init 4 = .ok (.aload_n 0, 1) := by decide +kernel
theorem dX9_init_5 : decode cX9_init 5 = .ok (.sipush 140, 3) := by decide +kernel
theorem dX9_init_8 : decode cX9_init 8 = .ok (.newarray .int, 2) := by decide +kernel
theorem dX9_init_10 : decode cX9_init 10 = .ok (.putfield 11, 3) := by decide +kernel
theorem dX9_init_13 : decode cX9_init 13 = .ok (.aload_n 0, 1) := by decide +kernel
theorem dX9_init_14 : decode cX9_init 14 = .ok (.iconst 0, 1) := by decide +kernel
theorem dX9_init_15 : decode cX9_init 15 = .ok (.putfield 15, 3) := by decide +kernel
theorem dX9_init_18 : decode cX9_init 18 = .ok (.aload_n 0, 1) := by decide +kernel
theorem dX9_init_19 : decode cX9_init 19 = .ok (.bipush 16, 2) := by decide +kernel
theorem dX9_init_21 : decode cX9_init 21 = .ok (.newarray .int, 2) := by decide +kernel
theorem dX9_init_23 : decode cX9_init 23 = .ok (.putfield 19, 3) := by decide +kernel
theorem dX9_init_26 : decode cX9_init 26 = .ok (.aload_n 0, 1) := by decide +kernel
theorem dX9_init_27 : decode cX9_init 27 = .ok (.bipush 16, 2) := by decide +kernel
theorem dX9_init_29 : decode cX9_init 29 = .ok (.newarray .boolean, 2) := by decide +kernel
theorem dX9_init_31 : decode cX9_init 31 = .ok (.putfield 22, 3) := by decide +kernel
theorem dX9_init_34 : decode cX9_init 34 = .ok (.aload_n 0, 1) := by decide +kernel
theorem dX9_init_35 : decode cX9_init 35 = .ok (.iconst 0, 1) := by decide +kernel
theorem dX9_init_36 : decode cX9_init 36 = .ok (.putfield 26, 3) := by decide +kernel
theorem dX9_init_39 : decode cX9_init 39 = .ok (.return_, 1) := by decide +kernel
theorem dX9_append_0 : decode cX9_append 0 = .ok (.aload_n 0, 1) := by decide +kernel
theorem dX9_append_1 : decode cX9_append 1 = .ok (.getfield 15, 3) := by decide +kernel
theorem dX9_append_4 : decode cX9_append 4 = .ok (.sipush 140, 3) := by decide +kernel
theorem dX9_append_7 : decode cX9_append 7 = .ok (.if_icmp .lt 5, 3) := by decide +kernel
theorem dX9_append_10 : decode cX9_append 10 = .ok (.iconst 0, 1) := by decide +kernel
theorem dX9_append_11 : decode cX9_append 11 = .ok (.ireturn, 1) := by decide +kernel
theorem dX9_append_12 : decode cX9_append 12 = .ok (.aload_n 0, 1) := by decide +kernel
theorem dX9_append_13 : decode cX9_append 13 = .ok (.getfield 11, 3) := by decide +kernel
theorem dX9_append_16 : decode cX9_append 16 = .ok (.aload_n 0, 1) := by decide +kernel
theorem dX9_append_17 : decode cX9_append 17 = .ok (.getfield 15, 3) := by decide +kernel
theorem dX9_append_20 : decode cX9_append 20 = .ok (.iload_n 1, 1) := by decide +kernel
theorem dX9_append_21 : decode cX9_append 21 = .ok (.iastore, 1) := by decide +kernel
theorem dX9_append_22 : decode cX9_append 22 = .ok (.aload_n 0, 1) := by decide +kernel
theorem dX9_append_23 : decode cX9_append 23 = .ok (.dup, 1) := by decide +kernel
theorem dX9_append_24 : decode cX9_append 24 = .ok (.getfield 15, 3) := by decide +kernel
theorem dX9_append_27 : decode cX9_append 27 = .ok (.iconst 1, 1) := by decide +kernel
theorem dX9_append_28 : decode cX9_append 28 = .ok (.iadd, 1) := by decide +kernel
theorem dX9_append_29 : decode cX9_append 29 = .ok (.putfield 15, 3) := by decide +kernel
theorem dX9_append_32 : decode cX9_append 32 = .ok (.iconst 1, 1) := by decide +kernel
theorem dX9_append_33 : decode cX9_append 33 = .ok (.ireturn, 1) := by decide +kernel
theorem dX9_parse_0 : decode cX9_parse 0 = .ok (.aload_n 0, 1) := by decide +kernel
theorem dX9_parse_1 : decode cX9_parse 1 = .ok (.iconst 0, 1) := by decide +kernel
theorem dX9_parse_2 : decode cX9_parse 2 = .ok (.putfield 26, 3) := by decide +kernel
theorem dX9_parse_5 : decode cX9_parse 5 = .ok (.iconst 0, 1) := by decide +kernel
theorem dX9_parse_6 : decode cX9_parse 6 = .ok (.istore_n 1, 1) := by decide +kernel
theorem dX9_parse_7 : decode cX9_parse 7 = .ok (.iload_n 1, 1) := by decide +kernel
theorem dX9_parse_8 : decode cX9_parse 8 = .ok (.aload_n 0, 1) := by decide +kernel
theorem dX9_parse_9 : decode cX9_parse 9 = .ok (.getfield 15, 3) := by decide +kernel
theorem dX9_parse_12 : decode cX9_parse 12 = .ok (.if_icmp .ge 160, 3) := by decide +kernel
theorem dX9_parse_15 : decode cX9_parse 15 = .ok (.aload_n 0, 1) := by decide +kernel
theorem dX9_parse_16 : decode cX9_parse 16 = .ok (.getfield 11, 3) := by decide +kernel
theorem dX9_parse_19 : decode cX9_parse 19 = .ok (.iload_n 1, 1) := by decide +kernel
theorem dX9_parse_20 : decode cX9_parse 20 = .ok (.iaload, 1) := by decide +kernel
theorem dX9_parse_21 : decode cX9_parse 21 = .ok (.istore_n 2, 1) := by decide +kernel
theorem dX9_parse_22 : decode cX9_parse 22 = .ok (.iinc 1 1, 3) := by decide +kernel
theorem dX9_parse_25 : decode cX9_parse 25 = .ok (.iload_n 2, 1) := by decide +kernel
theorem dX9_parse_26 : decode cX9_parse 26 = .ok (.bipush 32, 2) := by decide +kernel
theorem dX9_parse_28 : decode cX9_parse 28 = .ok (.if_icmp .eq (-21), 3) := by decide +kernel
theorem dX9_parse_31 : decode cX9_parse 31 = .ok (.iload_n 2, 1) := by decide +kernel
theorem dX9_parse_32 : decode cX9_parse 32 = .ok (.bipush 44, 2) := by decide +kernel
theorem dX9_parse_34 : decode cX9_parse 34 = .ok (.if_icmp .ne 6, 3) := by decide +kernel
theorem dX9_parse_37 : decode cX9_parse 37 = .ok (.goto (-30), 3) := by decide +kernel
theorem dX9_parse_40 : decode cX9_parse 40 = .ok (.iload_n 2, 1) := by decide +kernel
theorem dX9_parse_41 : decode cX9_parse 41 = .ok (.bipush 35, 2) := by decide +kernel
theorem dX9_parse_43 : decode cX9_parse 43 = .ok (.if_icmp .ne 12, 3) := by decide +kernel
theorem dX9_parse_46 : decode cX9_parse 46 = .ok (.aload_n 0, 1) := by decide +kernel
theorem dX9_parse_47 : decode cX9_parse 47 = .ok (.getfield 26, 3) := by decide +kernel
theorem dX9_parse_50 : decode cX9_parse 50 = .ok (.bipush 16, 2) := by decide +kernel
theorem dX9_parse_52 : decode cX9_parse 52 = .ok (.if_icmp .lt 7, 3) := by decide +kernel
theorem dX9_parse_55 : decode cX9_parse 55 = .ok (.iload_n 1, 1) := by decide +kernel
theorem dX9_parse_56 : decode cX9_parse 56 = .ok (.iconst 1, 1) := by decide +kernel
theorem dX9_parse_57 : decode cX9_parse 57 = .ok (.isub, 1) := by decide +kernel
theorem dX9_parse_58 : decode cX9_parse 58 = .ok (.ireturn, 1) := by decide +kernel
theorem dX9_parse_59 : decode cX9_parse 59 = .ok (.aload_n 0, 1) := by decide +kernel
theorem dX9_parse_60 : decode cX9_parse 60 = .ok (.iload_n 1, 1) := by decide +kernel
theorem dX9_parse_61 : decode cX9_parse 61 = .ok (.invokevirtual 29, 3) := by decide +kernel
theorem dX9_parse_64 : decode cX9_parse 64 = .ok (.istore_n 3, 1) := by decide +kernel
theorem dX9_parse_65 : decode cX9_parse 65 = .ok (.iload_n 3, 1) := by decide +kernel
theorem dX9_parse_66 : decode cX9_parse 66 = .ok (.iconst 3, 1) := by decide +kernel
theorem dX9_parse_67 : decode cX9_parse 67 = .ok (.if_icmp .eq 13, 3) := by decide +kernel
theorem dX9_parse_70 : decode cX9_parse 70 = .ok (.iload_n 3, 1) := by decide +kernel
theorem dX9_parse_71 : decode cX9_parse 71 = .ok (.bipush 6, 2) := by decide +kernel
theorem dX9_parse_73 : decode cX9_parse 73 = .ok (.if_icmp .eq 7, 3) := by decide +kernel
theorem dX9_parse_76 : decode cX9_parse 76 = .ok (.iload_n 1, 1) := by decide +kernel
theorem dX9_parse_77 : decode cX9_parse 77 = .ok (.iload_n 3, 1) := by decide +kernel
theorem dX9_parse_78 : decode cX9_parse 78 = .ok (.iadd, 1) := by decide +kernel
theorem dX9_parse_79 : decode cX9_parse 79 = .ok (.ireturn, 1) := by decide +kernel
theorem dX9_parse_80 : decode cX9_parse 80 = .ok (.aload_n 0, 1) := by decide +kernel
theorem dX9_parse_81 : decode cX9_parse 81 = .ok (.getfield 19, 3) := by decide +kernel
theorem dX9_parse_84 : decode cX9_parse 84 = .ok (.aload_n 0, 1) := by decide +kernel
theorem dX9_parse_85 : decode cX9_parse 85 = .ok (.getfield 26, 3) := by decide +kernel
theorem dX9_parse_88 : decode cX9_parse 88 = .ok (.iload_n 3, 1) := by decide +kernel
theorem dX9_parse_89 : decode cX9_parse 89 = .ok (.iconst 3, 1) := by decide +kernel
theorem dX9_parse_90 : decode cX9_parse 90 = .ok (.if_icmp .ne 11, 3) := by decide +kernel
theorem dX9_parse_93 : decode cX9_parse 93 = .ok (.aload_n 0, 1) := by decide +kernel
theorem dX9_parse_94 : decode cX9_parse 94 = .ok (.iload_n 1, 1) := by decide +kernel
theorem dX9_parse_95 : decode cX9_parse 95 = .ok (.invokevirtual 33, 3) := by decide +kernel
theorem dX9_parse_98 : decode cX9_parse 98 = .ok (.goto 8, 3) := by decide +kernel
theorem dX9_parse_101 : decode cX9_parse 101 = .ok (.aload_n 0, 1) := by decide +kernel
theorem dX9_parse_102 : decode cX9_parse 102 = .ok (.iload_n 1, 1) := by decide +kernel
theorem dX9_parse_103 : decode cX9_parse 103 = .ok (.invokevirtual 36, 3) := by decide +kernel
theorem dX9_parse_106 : decode cX9_parse 106 = .ok (.iastore, 1) := by decide +kernel
theorem dX9_parse_107 : decode cX9_parse 107 = .ok (.iload_n 1, 1) := by decide +kernel
theorem dX9_parse_108 : decode cX9_parse 108 = .ok (.iload_n 3, 1) := by decide +kernel
theorem dX9_parse_109 : decode cX9_parse 109 = .ok (.iadd, 1) := by decide +kernel
theorem dX9_parse_110 : decode cX9_parse 110 = .ok (.istore_n 1, 1) := by decide +kernel
theorem dX9_parse_111 : decode cX9_parse 111 = .ok (.aload_n 0, 1) := by decide +kernel
theorem dX9_parse_112 : decode cX9_parse 112 = .ok (.getfield 22, 3) := by decide +kernel
theorem dX9_parse_115 : decode cX9_parse 115 = .ok (.aload_n 0, 1) := by decide +kernel
theorem dX9_parse_116 : decode cX9_parse 116 = .ok (.getfield 26, 3) := by decide +kernel
theorem dX9_parse_119 : decode cX9_parse 119 = .ok (.iload_n 1, 1) := by decide +kernel
theorem dX9_parse_120 : decode cX9_parse 120 = .ok (.aload_n 0, 1) := by decide +kernel
theorem dX9_parse_121 : decode cX9_parse 121 = .ok (.getfield 15, 3) := by decide +kernel
theorem dX9_parse_124 : decode cX9_parse 124 = .ok (.if_icmp .ge 18, 3) := by decide +kernel
theorem dX9_parse_127 : decode cX9_parse 127 = .ok (.aload_n 0, 1) := by decide +kernel
theorem dX9_parse_128 : decode cX9_parse 128 = .ok (.getfield 11, 3) := by decide +kernel
theorem dX9_parse_131 : decode cX9_parse 131 = .ok (.iload_n 1, 1) := by decide +kernel
theorem dX9_parse_132 : decode cX9_parse 132 = .ok (.iaload, 1) := by decide +kernel
theorem dX9_parse_133 : decode cX9_parse 133 = .ok (.bipush 33, 2) := by decide +kernel
theorem dX9_parse_135 : decode cX9_parse 135 = .ok (.if_icmp .ne 7, 3) := by decide +kernel
theorem dX9_parse_138 : decode cX9_parse 138 = .ok (.iconst 1, 1) := by decide +kernel
theorem dX9_parse_139 : decode cX9_parse 139 = .ok (.goto 4, 3) := by decide +kernel
theorem dX9_parse_142 : decode cX9_parse 142 = .ok (.iconst 0, 1) := by decide +kernel
theorem dX9_parse_143 : decode cX9_parse 143 = .ok (.bastore, 1) := by decide +kernel
theorem dX9_parse_144 : decode cX9_parse 144 = .ok (.aload_n 0, 1) := by decide +kernel
theorem dX9_parse_145 : decode cX9_parse 145 = .ok (.getfield 22, 3) := by decide +kernel
theorem dX9_parse_148 : decode cX9_parse 148 = .ok (.aload_n 0, 1) := by decide +kernel
theorem dX9_parse_149 : decode cX9_parse 149 = .ok (.getfield 26, 3) := by decide +kernel
theorem dX9_parse_152 : decode cX9_parse 152 = .ok (.baload, 1) := by decide +kernel
theorem dX9_parse_153 : decode cX9_parse 153 = .ok (.ifCond .eq 6, 3) := by decide +kernel
theorem dX9_parse_156 : decode cX9_parse 156 = .ok (.iinc 1 1, 3) := by decide +kernel
theorem dX9_parse_159 : decode cX9_parse 159 = .ok (.aload_n 0, 1) := by decide +kernel
theorem dX9_parse_160 : decode cX9_parse 160 = .ok (.dup, 1) := by decide +kernel
theorem dX9_parse_161 : decode cX9_parse 161 = .ok (.getfield 26, 3) := by decide +kernel
theorem dX9_parse_164 : decode cX9_parse 164 = .ok (.iconst 1, 1) := by decide +kernel
theorem dX9_parse_165 : decode cX9_parse 165 = .ok (.iadd, 1) := by decide +kernel
theorem dX9_parse_166 : decode cX9_parse 166 = .ok (.putfield 26, 3) := by decide +kernel
theorem dX9_parse_169 : decode cX9_parse 169 = .ok (.goto (-162), 3) := by decide +kernel
theorem dX9_parse_172 : decode cX9_parse 172 = .ok (.iconst (-1), 1) := by decide +kernel
theorem dX9_parse_173 : decode cX9_parse 173 = .ok (.ireturn, 1) := by decide +kernel
theorem dX9_digitsFrom_0 : decode cX9_digitsFrom 0 = .ok (.iconst 0, 1) := by decide +kernel
theorem dX9_digitsFrom_1 : decode cX9_digitsFrom 1 = .ok (.istore_n 2, 1) := by decide +kernel
theorem dX9_digitsFrom_2 : decode cX9_digitsFrom 2 = .ok (.iload_n 2, 1) := by decide +kernel
theorem dX9_digitsFrom_3 : decode cX9_digitsFrom 3 = .ok (.bipush 6, 2) := by decide +kernel
theorem dX9_digitsFrom_5 : decode cX9_digitsFrom 5 = .ok (.if_icmp .ge 20, 3) := by decide +kernel
theorem dX9_digitsFrom_8 : decode cX9_digitsFrom 8 = .ok (.aload_n 0, 1) := by decide +kernel
theorem dX9_digitsFrom_9 : decode cX9_digitsFrom 9 = .ok (.iload_n 1, 1) := by decide +kernel
theorem dX9_digitsFrom_10 : decode cX9_digitsFrom 10 = .ok (.iload_n 2, 1) := by decide +kernel
theorem dX9_digitsFrom_11 : decode cX9_digitsFrom 11 = .ok (.iadd, 1) := by decide +kernel
theorem dX9_digitsFrom_12 : decode cX9_digitsFrom 12 = .ok (.invokevirtual 39, 3) := by decide +kernel
theorem dX9_digitsFrom_15 : decode cX9_digitsFrom 15 = .ok (.iconst (-1), 1) := by decide +kernel
theorem dX9_digitsFrom_16 : decode cX9_digitsFrom 16 = .ok (.if_icmp .eq 9, 3) := by decide +kernel
theorem dX9_digitsFrom_19 : decode cX9_digitsFrom 19 = .ok (.iinc 2 1, 3) := by decide +kernel
theorem dX9_digitsFrom_22 : decode cX9_digitsFrom 22 = .ok (.goto (-20), 3) := by decide +kernel
theorem dX9_digitsFrom_25 : decode cX9_digitsFrom 25 = .ok (.iload_n 2, 1) := by decide +kernel
theorem dX9_digitsFrom_26 : decode cX9_digitsFrom 26 = .ok (.ireturn, 1) := by decide +kernel
theorem dX9_shortColor_0 : decode cX9_shortColor 0 = .ok (.bipush 17, 2) := by decide +kernel
theorem dX9_shortColor_2 : decode cX9_shortColor 2 = .ok (.aload_n 0, 1) := by decide +kernel
theorem dX9_shortColor_3 : decode cX9_shortColor 3 = .ok (.iload_n 1, 1) := by decide +kernel
theorem dX9_shortColor_4 : decode cX9_shortColor 4 = .ok (.invokevirtual 39, 3) := by decide +kernel
theorem dX9_shortColor_7 : decode cX9_shortColor 7 = .ok (.imul, 1) := by decide +kernel
theorem dX9_shortColor_8 : decode cX9_shortColor 8 = .ok (.bipush 17, 2) := by decide +kernel
theorem dX9_shortColor_10 : decode cX9_shortColor 10 = .ok (.aload_n 0, 1) := by decide +kernel
theorem dX9_shortColor_11 : decode cX9_shortColor 11 = .ok (.iload_n 1, 1) := by decide +kernel
theorem dX9_shortColor_12 : decode cX9_shortColor 12 = .ok (.iconst 1, 1) := by decide +kernel
theorem dX9_shortColor_13 : decode cX9_shortColor 13 = .ok (.iadd, 1) := by decide +kernel
theorem dX9_shortColor_14 : decode cX9_shortColor 14 = .ok (.invokevirtual 39, 3) := by decide +kernel
theorem dX9_shortColor_17 : decode cX9_shortColor 17 = .ok (.imul, 1) := by decide +kernel
theorem dX9_shortColor_18 : decode cX9_shortColor 18 = .ok (.bipush 17, 2) := by decide +kernel
theorem dX9_shortColor_20 : decode cX9_shortColor 20 = .ok (.aload_n 0, 1) := by decide +kernel
theorem dX9_shortColor_21 : decode cX9_shortColor 21 = .ok (.iload_n 1, 1) := by decide +kernel
theorem dX9_shortColor_22 : decode cX9_shortColor 22 = .ok (.iconst 2, 1) := by decide +kernel
theorem dX9_shortColor_23 : decode cX9_shortColor 23 = .ok (.iadd, 1) := by decide +kernel
theorem dX9_shortColor_24 : decode cX9_shortColor 24 = .ok (.invokevirtual 39, 3) := by decide +kernel
theorem dX9_shortColor_27 : decode cX9_shortColor 27 = .ok (.imul, 1) := by decide +kernel
theorem dX9_shortColor_28 : decode cX9_shortColor 28 = .ok (.invokestatic 42, 3) := by decide +kernel
theorem dX9_shortColor_31 : decode cX9_shortColor 31 = .ok (.ireturn, 1) := by decide +kernel
theorem dX9_longColor_0 : decode cX9_longColor 0 = .ok (.iconst 0, 1) := by decide +kernel
theorem dX9_longColor_1 : decode cX9_longColor 1 = .ok (.istore_n 2, 1) := by decide +kernel
theorem dX9_longColor_2 : decode cX9_longColor 2 = .ok (.iconst 0, 1) := by decide +kernel
theorem dX9_longColor_3 : decode cX9_longColor 3 = .ok (.istore_n 3, 1) := by decide +kernel
theorem dX9_longColor_4 : decode cX9_longColor 4 = .ok (.iload_n 3, 1) := by decide +kernel
theorem dX9_longColor_5 : decode cX9_longColor 5 = .ok (.bipush 6, 2) := by decide +kernel
theorem dX9_longColor_7 : decode cX9_longColor 7 = .ok (.if_icmp .ge 22, 3) := by decide +kernel
theorem dX9_longColor_10 : decode cX9_longColor 10 = .ok (.bipush 16, 2) := by decide +kernel
theorem dX9_longColor_12 : decode cX9_longColor 12 = .ok (.iload_n 2, 1) := by decide +kernel
theorem dX9_longColor_13 : decode cX9_longColor 13 = .ok (.imul, 1) := by decide +kernel
theorem dX9_longColor_14 : decode cX9_longColor 14 = .ok (.aload_n 0, 1) := by decide +kernel
theorem dX9_longColor_15 : decode cX9_longColor 15 = .ok (.iload_n 1, 1) := by decide +kernel
theorem dX9_longColor_16 : decode cX9_longColor 16 = .ok (.iload_n 3, 1) := by decide +kernel
theorem dX9_longColor_17 : decode cX9_longColor 17 = .ok (.iadd, 1) := by decide +kernel
theorem dX9_longColor_18 : decode cX9_longColor 18 = .ok (.invokevirtual 39, 3) := by decide +kernel
theorem dX9_longColor_21 : decode cX9_longColor 21 = .ok (.iadd, 1) := by decide +kernel
theorem dX9_longColor_22 : decode cX9_longColor 22 = .ok (.istore_n 2, 1) := by decide +kernel
theorem dX9_longColor_23 : decode cX9_longColor 23 = .ok (.iinc 3 1, 3) := by decide +kernel
theorem dX9_longColor_26 : decode cX9_longColor 26 = .ok (.goto (-22), 3) := by decide +kernel
theorem dX9_longColor_29 : decode cX9_longColor 29 = .ok (.iload_n 2, 1) := by decide +kernel
theorem dX9_longColor_30 : decode cX9_longColor 30 = .ok (.ireturn, 1) := by decide +kernel
theorem dX9_digitAt_0 : decode cX9_digitAt 0 = .ok (.iload_n 1, 1) := by decide +kernel
theorem dX9_digitAt_1 : decode cX9_digitAt 1 = .ok (.ifCond .lt 11, 3) := by decide +kernel
theorem dX9_digitAt_4 : decode cX9_digitAt 4 = .ok (.iload_n 1, 1) := by decide +kernel
theorem dX9_digitAt_5 : decode cX9_digitAt 5 = .ok (.aload_n 0, 1) := by decide +kernel
theorem dX9_digitAt_6 : decode cX9_digitAt 6 = .ok (.getfield 15, 3) := by decide +kernel
theorem dX9_digitAt_9 : decode cX9_digitAt 9 = .ok (.if_icmp .lt 5, 3) := by decide +kernel
theorem dX9_digitAt_12 : decode cX9_digitAt 12 = .ok (.iconst (-1), 1) := by decide +kernel
theorem dX9_digitAt_13 : decode cX9_digitAt 13 = .ok (.ireturn, 1) := by decide +kernel
theorem dX9_digitAt_14 : decode cX9_digitAt 14 = .ok (.aload_n 0, 1) := by decide +kernel
theorem dX9_digitAt_15 : decode cX9_digitAt 15 = .ok (.getfield 11, 3) := by decide +kernel
theorem dX9_digitAt_18 : decode cX9_digitAt 18 = .ok (.iload_n 1, 1) := by decide +kernel
theorem dX9_digitAt_19 : decode cX9_digitAt 19 = .ok (.iaload, 1) := by decide +kernel
theorem dX9_digitAt_20 : decode cX9_digitAt 20 = .ok (.istore_n 2, 1) := by decide +kernel
theorem dX9_digitAt_21 : decode cX9_digitAt 21 = .ok (.iload_n 2, 1) := by decide +kernel
theorem dX9_digitAt_22 : decode cX9_digitAt 22 = .ok (.bipush 48, 2) := by decide +kernel
theorem dX9_digitAt_24 : decode cX9_digitAt 24 = .ok (.if_icmp .lt 14, 3) := by decide +kernel
theorem dX9_digitAt_27 : decode cX9_digitAt 27 = .ok (.iload_n 2, 1) := by decide +kernel
theorem dX9_digitAt_28 : decode cX9_digitAt 28 = .ok (.bipush 57, 2) := by decide +kernel
theorem dX9_digitAt_30 : decode cX9_digitAt 30 = .ok (.if_icmp .gt 8, 3) := by decide +kernel
theorem dX9_digitAt_33 : decode cX9_digitAt 33 = .ok (.iload_n 2, 1) := by decide +kernel
theorem dX9_digitAt_34 : decode cX9_digitAt 34 = .ok (.bipush 48, 2) := by decide +kernel
theorem dX9_digitAt_36 : decode cX9_digitAt 36 = .ok (.isub, 1) := by decide +kernel
theorem dX9_digitAt_37 : decode cX9_digitAt 37 = .ok (.ireturn, 1) := by decide +kernel
theorem dX9_digitAt_38 : decode cX9_digitAt 38 = .ok (.iload_n 2, 1) := by decide +kernel
theorem dX9_digitAt_39 : decode cX9_digitAt 39 = .ok (.bipush 97, 2) := by decide +kernel
theorem dX9_digitAt_41 : decode cX9_digitAt 41 = .ok (.if_icmp .lt 17, 3) := by decide +kernel
theorem dX9_digitAt_44 : decode cX9_digitAt 44 = .ok (.iload_n 2, 1) := by decide +kernel
theorem dX9_digitAt_45 : decode cX9_digitAt 45 = .ok (.bipush 102, 2) := by decide +kernel
theorem dX9_digitAt_47 : decode cX9_digitAt 47 = .ok (.if_icmp .gt 11, 3) := by decide +kernel
theorem dX9_digitAt_50 : decode cX9_digitAt 50 = .ok (.iload_n 2, 1) := by decide +kernel
theorem dX9_digitAt_51 : decode cX9_digitAt 51 = .ok (.bipush 97, 2) := by decide +kernel
theorem dX9_digitAt_53 : decode cX9_digitAt 53 = .ok (.isub, 1) := by decide +kernel
theorem dX9_digitAt_54 : decode cX9_digitAt 54 = .ok (.bipush 10, 2) := by decide +kernel
theorem dX9_digitAt_56 : decode cX9_digitAt 56 = .ok (.iadd, 1) := by decide +kernel
theorem dX9_digitAt_57 : decode cX9_digitAt 57 = .ok (.ireturn, 1) := by decide +kernel
theorem dX9_digitAt_58 : decode cX9_digitAt 58 = .ok (.iload_n 2, 1) := by decide +kernel
theorem dX9_digitAt_59 : decode cX9_digitAt 59 = .ok (.bipush 65, 2) := by decide +kernel
theorem dX9_digitAt_61 : decode cX9_digitAt 61 = .ok (.if_icmp .lt 19, 3) := by decide +kernel
theorem dX9_digitAt_64 : decode cX9_digitAt 64 = .ok (.iload_n 2, 1) := by decide +kernel
theorem dX9_digitAt_65 : decode cX9_digitAt 65 = .ok (.bipush 70, 2) := by decide +kernel
theorem dX9_digitAt_67 : decode cX9_digitAt 67 = .ok (.if_icmp .gt 13, 3) := by decide +kernel
theorem dX9_digitAt_70 : decode cX9_digitAt 70 = .ok (.iload_n 2, 1) := by decide +kernel
theorem dX9_digitAt_71 : decode cX9_digitAt 71 = .ok (.bipush 65, 2) := by decide +kernel
theorem dX9_digitAt_73 : decode cX9_digitAt 73 = .ok (.isub, 1) := by decide +kernel
theorem dX9_digitAt_74 : decode cX9_digitAt 74 = .ok (.bipush 10, 2) := by decide +kernel
theorem dX9_digitAt_76 : decode cX9_digitAt 76 = .ok (.iadd, 1) := by decide +kernel
theorem dX9_digitAt_77 : decode cX9_digitAt 77 = .ok (.goto 4, 3) := by decide +kernel
theorem dX9_digitAt_80 : decode cX9_digitAt 80 = .ok (.iconst (-1), 1) := by decide +kernel
theorem dX9_digitAt_81 : decode cX9_digitAt 81 = .ok (.ireturn, 1) := by decide +kernel
theorem dX10_init_0 : decode cX10_init 0 = .ok (.aload_n 0, 1) := by decide +kernel
theorem dX10_init_1 : decode cX10_init 1 = .ok (.invokespecial 1, 3) := by decide +kernel
theorem dX10_init_4 : decode cX10_init 4 = .ok (.aload_n 0, 1) := by decide +kernel
theorem dX10_init_5 : decode cX10_init 5 = .ok (.new 7, 3) := by decide +kernel
theorem dX10_init_8 : decode cX10_init 8 = .ok (.dup, 1) := by decide +kernel
theorem dX10_init_9 : decode cX10_init 9 = .ok (.invokespecial 9, 3) := by decide +kernel
theorem dX10_init_12 : decode cX10_init 12 = .ok (.putfield 10, 3) := by decide +kernel
theorem dX10_init_15 : decode cX10_init 15 = .ok (.aload_n 0, 1) := by decide +kernel
theorem dX10_init_16 : decode cX10_init 16 = .ok (.new 16, 3) := by decide +kernel
theorem dX10_init_19 : decode cX10_init 19 = .ok (.dup, 1) := by decide +kernel
theorem dX10_init_20 : decode cX10_init 20 = .ok (.invokespecial 18, 3) := by decide +kernel
theorem dX10_init_23 : decode cX10_init 23 = .ok (.putfield 19, 3) := by decide +kernel
theorem dX10_init_26 : decode cX10_init 26 = .ok (.aload_n 0, 1) := by decide +kernel
theorem dX10_init_27 : decode cX10_init 27 = .ok (.new 23, 3) := by decide +kernel
theorem dX10_init_30 : decode cX10_init 30 = .ok (.dup, 1) := by decide +kernel
theorem dX10_init_31 : decode cX10_init 31 = .ok (.invokespecial 25, 3) := by decide +kernel
theorem dX10_init_34 : decode cX10_init 34 = .ok (.putfield 26, 3) := by decide +kernel
theorem dX10_init_37 : decode cX10_init 37 = .ok (.aload_n 0, 1) := by decide +kernel
theorem dX10_init_38 : decode cX10_init 38 = .ok (.new 30, 3) := by decide +kernel
theorem dX10_init_41 : decode cX10_init 41 = .ok (.dup, 1) := by decide +kernel
theorem dX10_init_42 : decode cX10_init 42 = .ok (.aload_n 0, 1) := by decide +kernel
theorem dX10_init_43 : decode cX10_init 43 = .ok (.getfield 10, 3) := by decide +kernel
theorem dX10_init_46 : decode cX10_init 46 = .ok (.invokespecial 32, 3) := by decide +kernel
theorem dX10_init_49 : decode cX10_init 49 = .ok (.putfield 35, 3) := by decide +kernel
theorem dX10_init_52 : decode cX10_init 52 = .ok (.aload_n 0, 1) := by decide +kernel
theorem dX10_init_53 : decode cX10_init 53 = .ok (.new 39, 3) := by decide +kernel
theorem dX10_init_56 : decode cX10_init 56 = .ok (.dup, 1) := by decide +kernel
theorem dX10_init_57 : decode cX10_init 57 = .ok (.aload_n 0, 1) := by decide +kernel
theorem dX10_init_58 : decode cX10_init 58 = .ok (.getfield 10, 3) := by decide +kernel
theorem dX10_init_61 : decode cX10_init 61 = .ok (.invokespecial 41, 3) := by decide +kernel
theorem dX10_init_64 : decode cX10_init 64 = .ok (.putfield 42, 3) := by decide +kernel
theorem dX10_init_67 : decode cX10_init 67 = .ok (.aload_n 0, 1) := by decide +kernel
theorem dX10_init_68 : decode cX10_init 68 = .ok (.new 46, 3) := by decide +kernel
theorem dX10_init_71 : decode cX10_init 71 = .ok (.dup, 1) := by decide +kernel
theorem dX10_init_72 : decode cX10_init 72 = .ok (.aload_n 0, 1) := by decide +kernel
theorem dX10_init_73 : decode cX10_init 73 = .ok (.getfield 10, 3) := by decide +kernel
theorem dX10_init_76 : decode cX10_init 76 = .ok (.aload_n 0, 1) := by decide +kernel
theorem dX10_init_77 : decode cX10_init 77 = .ok (.getfield 35, 3) := by decide +kernel
theorem dX10_init_80 : decode cX10_init 80 = .ok (.invokespecial 48, 3) := by decide +kernel
theorem dX10_init_83 : decode cX10_init 83 = .ok (.putfield 51, 3) := by decide +kernel
theorem dX10_init_86 : decode cX10_init 86 = .ok (.aload_n 0, 1) := by decide +kernel
theorem dX10_init_87 : decode cX10_init 87 = .ok (.new 55, 3) := by decide +kernel
theorem dX10_init_90 : decode cX10_init 90 = .ok (.dup, 1) := by decide +kernel
theorem dX10_init_91 : decode cX10_init 91 = .ok (.aload_n 0, 1) := by decide +kernel
theorem dX10_init_92 : decode cX10_init 92 = .ok (.getfield 10, 3) := by decide +kernel
theorem dX10_init_95 : decode cX10_init 95 = .ok (.aload_n 0, 1) := by decide +kernel
theorem dX10_init_96 : decode cX10_init 96 = .ok (.getfield 42, 3) := by decide +kernel
theorem dX10_init_99 : decode cX10_init 99 = .ok (.invokespecial 57, 3) := by decide +kernel
theorem dX10_init_102 : decode cX10_init 102 = .ok (.putfield 60, 3) := by decide +kernel
theorem dX10_init_105 : decode cX10_init 105 = .ok (.aload_n 0, 1) := by decide +kernel
theorem dX10_init_106 : decode cX10_init 106 = .ok (.new 64, 3) := by decide +kernel
theorem dX10_init_109 : decode cX10_init 109 = .ok (.dup, 1) := by decide +kernel
theorem dX10_init_110 : decode cX10_init 110 = .ok (.aload_n 0, 1) := by decide +kernel
theorem dX10_init_111 : decode cX10_init 111 = .ok (.getfield 10, 3) := by decide +kernel
theorem dX10_init_114 : decode cX10_init 114 = .ok (.aload_n 0, 1) := by decide +kernel
theorem dX10_init_115 : decode cX10_init 115 = .ok (.getfield 42, 3) := by decide +kernel
theorem dX10_init_118 : decode cX10_init 118 = .ok (.invokespecial 66, 3) := by decide +kernel
theorem dX10_init_121 : decode cX10_init 121 = .ok (.putfield 67, 3) := by decide +kernel
theorem dX10_init_124 : decode cX10_init 124 = .ok (.aload_n 0, 1) := by decide +kernel
theorem dX10_init_125 : decode cX10_init 125 = .ok (.new 71, 3) := by decide +kernel
theorem dX10_init_128 : decode cX10_init 128 = .ok (.dup, 1) := by decide +kernel
theorem dX10_init_129 : decode cX10_init 129 = .ok (.aload_n 0, 1) := by decide +kernel
theorem dX10_init_130 : decode cX10_init 130 = .ok (.getfield 10, 3) := by decide +kernel
theorem dX10_init_133 : decode cX10_init 133 = .ok (.invokespecial 73, 3) := by decide +kernel
theorem dX10_init_136 : decode cX10_init 136 = .ok (.putfield 74, 3) := by decide +kernel
theorem dX10_init_139 : decode cX10_init 139 = .ok (.aload_n 0, 1) := by decide +kernel
theorem dX10_init_140 : decode cX10_init 140 = .ok (.new 78, 3) := by decide +kernel
theorem dX10_init_143 : decode cX10_init 143 = .ok (.dup, 1) := by decide +kernel
theorem dX10_init_144 : decode cX10_init 144 = .ok (.aload_n 0, 1) := by decide +kernel
theorem dX10_init_145 : decode cX10_init 145 = .ok (.getfield 10, 3) := by decide +kernel
theorem dX10_init_148 : decode cX10_init 148 = .ok (.invokespecial 80, 3) := by decide +kernel
theorem dX10_init_151 : decode cX10_init 151 = .ok (.putfield 81, 3) := by decide +kernel
theorem dX10_init_154 : decode cX10_init 154 = .ok (.return_, 1) := by decide +kernel
theorem dX10_image_0 : decode cX10_image 0 = .ok (.iload_n 1, 1) := by decide +kernel
theorem dX10_image_1 : decode cX10_image 1 = .ok (.iconst 1, 1) := by decide +kernel
theorem dX10_image_2 : decode cX10_image 2 = .ok (.bipush 16, 2) := by decide +kernel
theorem dX10_image_4 : decode cX10_image 4 = .ok (.invokestatic 85, 3) := by decide +kernel
theorem dX10_image_7 : decode cX10_image 7 = .ok (.ifCond .eq 13, 3) := by decide +kernel
theorem dX10_image_10 : decode cX10_image 10 = .ok (.iload_n 2, 1) := by decide +kernel
theorem dX10_image_11 : decode cX10_image 11 = .ok (.iconst 1, 1) := by decide +kernel
theorem dX10_image_12 : decode cX10_image 12 = .ok (.bipush 16, 2) := by decide +kernel
theorem dX10_image_14 : decode cX10_image 14 = .ok (.invokestatic 85, 3) := by decide +kernel
theorem dX10_image_17 : decode cX10_image 17 = .ok (.ifCond .ne 6, 3) := by decide +kernel
theorem dX10_image_20 : decode cX10_image 20 = .ok (.bipush (-2), 2) := by decide +kernel
theorem dX10_image_22 : decode cX10_image 22 = .ok (.ireturn, 1) := by decide +kernel
theorem dX10_image_23 : decode cX10_image 23 = .ok (.aload_n 0, 1) := by decide +kernel
theorem dX10_image_24 : decode cX10_image 24 = .ok (.invokevirtual 89, 3) := by decide +kernel
theorem dX10_image_27 : decode cX10_image 27 = .ok (.aload_n 0, 1) := by decide +kernel
theorem dX10_image_28 : decode cX10_image 28 = .ok (.getfield 10, 3) := by decide +kernel
theorem dX10_image_31 : decode cX10_image 31 = .ok (.iload_n 1, 1) := by decide +kernel
theorem dX10_image_32 : decode cX10_image 32 = .ok (.putfield 92, 3) := by decide +kernel
theorem dX10_image_35 : decode cX10_image 35 = .ok (.aload_n 0, 1) := by decide +kernel
theorem dX10_image_36 : decode cX10_image 36 = .ok (.getfield 10, 3) := by decide +kernel
theorem dX10_image_39 : decode cX10_image 39 = .ok (.iload_n 2, 1) := by decide +kernel
theorem dX10_image_40 : decode cX10_image 40 = .ok (.putfield 96, 3) := by decide +kernel
theorem dX10_image_43 : decode cX10_image 43 = .ok (.aload_n 0, 1) := by decide +kernel
theorem dX10_image_44 : decode cX10_image 44 = .ok (.getfield 10, 3) := by decide +kernel
theorem dX10_image_47 : decode cX10_image 47 = .ok (.iconst 0, 1) := by decide +kernel
theorem dX10_image_48 : decode cX10_image 48 = .ok (.iconst 0, 1) := by decide +kernel
theorem dX10_image_49 : decode cX10_image 49 = .ok (.iload_n 1, 1) := by decide +kernel
theorem dX10_image_50 : decode cX10_image 50 = .ok (.iload_n 2, 1) := by decide +kernel
theorem dX10_image_51 : decode cX10_image 51 = .ok (.iconst 0, 1) := by decide +kernel
theorem dX10_image_52 : decode cX10_image 52 = .ok (.invokevirtual 99, 3) := by decide +kernel
theorem dX10_image_55 : decode cX10_image 55 = .ok (.aload_n 0, 1) := by decide +kernel
theorem dX10_image_56 : decode cX10_image 56 = .ok (.getfield 10, 3) := by decide +kernel
theorem dX10_image_59 : decode cX10_image 59 = .ok (.invokevirtual 103, 3) := by decide +kernel
theorem dX10_image_62 : decode cX10_image 62 = .ok (.ireturn, 1) := by decide +kernel
theorem dX10_paint_0 : decode cX10_paint 0 = .ok (.aload_n 0, 1) := by decide +kernel
theorem dX10_paint_1 : decode cX10_paint 1 = .ok (.getfield 10, 3) := by decide +kernel
theorem dX10_paint_4 : decode cX10_paint 4 = .ok (.iload_n 1, 1) := by decide +kernel
theorem dX10_paint_5 : decode cX10_paint 5 = .ok (.iload_n 2, 1) := by decide +kernel
theorem dX10_paint_6 : decode cX10_paint 6 = .ok (.invokevirtual 107, 3) := by decide +kernel
theorem dX10_paint_9 : decode cX10_paint 9 = .ok (.ifCond .eq 14, 3) := by decide +kernel
theorem dX10_paint_12 : decode cX10_paint 12 = .ok (.iload 5, 2) := by decide +kernel
theorem dX10_paint_14 : decode cX10_paint 14 = .ok (.iconst (-1), 1) := by decide +kernel
theorem dX10_paint_15 : decode cX10_paint 15 = .ok (.ldc 111, 2) := by decide +kernel
theorem dX10_paint_17 : decode cX10_paint 17 = .ok (.invokestatic 85, 3) := by decide +kernel
theorem dX10_paint_20 : decode cX10_paint 20 = .ok (.ifCond .ne 6, 3) := by decide +kernel
theorem dX10_paint_23 : decode cX10_paint 23 = .ok (.bipush (-2), 2) := by decide +kernel
theorem dX10_paint_25 : decode cX10_paint 25 = .ok (.ireturn, 1) := by decide +kernel
theorem dX10_paint_26 : decode cX10_paint 26 = .ok (.iload_n 3, 1) := by decide +kernel
theorem dX10_paint_27 : decode cX10_paint 27 = .ok (.iconst 1, 1) := by decide +kernel
theorem dX10_paint_28 : decode cX10_paint 28 = .ok (.aload_n 0, 1) := by decide +kernel
theorem dX10_paint_29 : decode cX10_paint 29 = .ok (.getfield 10, 3) := by decide +kernel
theorem dX10_paint_32 : decode cX10_paint 32 = .ok (.getfield 92, 3) := by decide +kernel
theorem dX10_paint_35 : decode cX10_paint 35 = .ok (.iload_n 1, 1) := by decide +kernel
theorem dX10_paint_36 : decode cX10_paint 36 = .ok (.isub, 1) := by decide +kernel
theorem dX10_paint_37 : decode cX10_paint 37 = .ok (.invokestatic 85, 3) := by decide +kernel
theorem dX10_paint_40 : decode cX10_paint 40 = .ok (.ifCond .eq 21, 3) := by decide +kernel
theorem dX10_paint_43 : decode cX10_paint 43 = .ok (.iload 4, 2) := by decide +kernel
theorem dX10_paint_45 : decode cX10_paint 45 = .ok (.iconst 1, 1) := by decide +kernel
theorem dX10_paint_46 : decode cX10_paint 46 = .ok (.aload_n 0, 1) := by decide +kernel
theorem dX10_paint_47 : decode cX10_paint 47 = .ok (.getfield 10, 3) := by decide +kernel
theorem dX10_paint_50 : decode cX10_paint 50 = .ok (.getfield 96, 3) := by decide +kernel
theorem dX10_paint_53 : decode cX10_paint 53 = .ok (.iload_n 2, 1) := by decide +kernel
theorem dX10_paint_54 : decode cX10_paint 54 = .ok (.isub, 1) := by decide +kernel
theorem dX10_paint_55 : decode cX10_paint 55 = .ok (.invokestatic 85, 3) := by decide +kernel
theorem dX10_paint_58 : decode cX10_paint 58 = .ok (.ifCond .ne 6, 3) := by decide +kernel
theorem dX10_paint_61 : decode cX10_paint 61 = .ok (.bipush (-2), 2) := by decide +kernel
theorem dX10_paint_63 : decode cX10_paint 63 = .ok (.ireturn, 1) := by decide +kernel
theorem dX10_paint_64 : decode cX10_paint 64 = .ok (.aload_n 0, 1) := by decide +kernel
theorem dX10_paint_65 : decode cX10_paint 65 = .ok (.invokevirtual 89, 3) := by decide +kernel
theorem dX10_paint_68 : decode cX10_paint 68 = .ok (.aload_n 0, 1) := by decide +kernel
theorem dX10_paint_69 : decode cX10_paint 69 = .ok (.getfield 10, 3) := by decide +kernel
theorem dX10_paint_72 : decode cX10_paint 72 = .ok (.iload_n 1, 1) := by decide +kernel
theorem dX10_paint_73 : decode cX10_paint 73 = .ok (.iload_n 2, 1) := by decide +kernel
theorem dX10_paint_74 : decode cX10_paint 74 = .ok (.iload_n 3, 1) := by decide +kernel
theorem dX10_paint_75 : decode cX10_paint 75 = .ok (.iload 4, 2) := by decide +kernel
theorem dX10_paint_77 : decode cX10_paint 77 = .ok (.iload 5, 2) := by decide +kernel
theorem dX10_paint_79 : decode cX10_paint 79 = .ok (.invokevirtual 99, 3) := by decide +kernel
theorem dX10_paint_82 : decode cX10_paint 82 = .ok (.iload_n 3, 1) := by decide +kernel
theorem dX10_paint_83 : decode cX10_paint 83 = .ok (.iload 4, 2) := by decide +kernel
theorem dX10_paint_85 : decode cX10_paint 85 = .ok (.imul, 1) := by decide +kernel
theorem dX10_paint_86 : decode cX10_paint 86 = .ok (.ireturn, 1) := by decide +kernel
theorem dX10_gradient_0 : decode cX10_gradient 0 = .ok (.iload_n 1, 1) := by decide +kernel
theorem dX10_gradient_1 : decode cX10_gradient 1 = .ok (.invokestatic 112, 3) := by decide +kernel
theorem dX10_gradient_4 : decode cX10_gradient 4 = .ok (.ifCond .eq 10, 3) := by decide +kernel
theorem dX10_gradient_7 : decode cX10_gradient 7 = .ok (.iload_n 2, 1) := by decide +kernel
theorem dX10_gradient_8 : decode cX10_gradient 8 = .ok (.invokestatic 112, 3) := by decide +kernel
theorem dX10_gradient_11 : decode cX10_gradient 11 = .ok (.ifCond .ne 6, 3) := by decide +kernel
theorem dX10_gradient_14 : decode cX10_gradient 14 = .ok (.bipush (-2), 2) := by decide +kernel
theorem dX10_gradient_16 : decode cX10_gradient 16 = .ok (.ireturn, 1) := by decide +kernel
theorem dX10_gradient_17 : decode cX10_gradient 17 = .ok (.aload_n 0, 1) := by decide +kernel
theorem dX10_gradient_18 : decode cX10_gradient 18 = .ok (.invokevirtual 89, 3) := by decide +kernel
theorem dX10_gradient_21 : decode cX10_gradient 21 = .ok (.iload_n 3, 1) := by decide +kernel
theorem dX10_gradient_22 : decode cX10_gradient 22 = .ok (.ifCond .eq 13, 3) := by decide +kernel
theorem dX10_gradient_25 : decode cX10_gradient 25 = .ok (.aload_n 0, 1) := by decide +kernel
theorem dX10_gradient_26 : decode cX10_gradient 26 = .ok (.getfield 10, 3) := by decide +kernel
theorem dX10_gradient_29 : decode cX10_gradient 29 = .ok (.getfield 96, 3) := by decide +kernel
theorem dX10_gradient_32 : decode cX10_gradient 32 = .ok (.goto 10, 3) := by decide +kernel
theorem dX10_gradient_35 : decode cX10_gradient 35 = .ok (.aload_n 0, 1) := by decide +kernel
theorem dX10_gradient_36 : decode cX10_gradient 36 = .ok (.getfield 10, 3) := by decide +kernel
theorem dX10_gradient_39 : decode cX10_gradient 39 = .ok (.getfield 92, 3) := by decide +kernel
theorem dX10_gradient_42 : decode cX10_gradient 42 = .ok (.istore 4, 2) := by decide +kernel
theorem dX10_gradient_44 : decode cX10_gradient 44 = .ok (.iconst 0, 1) := by decide +kernel
theorem dX10_gradient_45 : decode cX10_gradient 45 = .ok (.istore 5, 2) := by decide +kernel
theorem dX10_gradient_47 : decode cX10_gradient 47 = .ok (.iload 5, 2) := by decide +kernel
theorem dX10_gradient_49 : decode cX10_gradient 49 = .ok (.iload 4, 2) := by decide +kernel
theorem dX10_gradient_51 : decode cX10_gradient 51 = .ok (.if_icmp .ge 67, 3) := by decide +kernel
theorem dX10_gradient_54 : decode cX10_gradient 54 = .ok (.iload_n 1, 1) := by decide +kernel
theorem dX10_gradient_55 : decode cX10_gradient 55 = .ok (.iload_n 2, 1) := by decide +kernel
theorem dX10_gradient_56 : decode cX10_gradient 56 = .ok (.iload 5, 2) := by decide +kernel
theorem dX10_gradient_58 : decode cX10_gradient 58 = .ok (.iload 4, 2) := by decide +kernel
theorem dX10_gradient_60 : decode cX10_gradient 60 = .ok (.invokestatic 116, 3) := by decide +kernel
theorem dX10_gradient_63 : decode cX10_gradient 63 = .ok (.istore 6, 2) := by decide +kernel
theorem dX10_gradient_65 : decode cX10_gradient 65 = .ok (.iload_n 3, 1) := by decide +kernel
theorem dX10_gradient_66 : decode cX10_gradient 66 = .ok (.ifCond .eq 26, 3) := by decide +kernel
theorem dX10_gradient_69 : decode cX10_gradient 69 = .ok (.aload_n 0, 1) := by decide +kernel
theorem dX10_gradient_70 : decode cX10_gradient 70 = .ok (.getfield 10, 3) := by decide +kernel
theorem dX10_gradient_73 : decode cX10_gradient 73 = .ok (.iconst 0, 1) := by decide +kernel
theorem dX10_gradient_74 : decode cX10_gradient 74 = .ok (.iload 5, 2) := by decide +kernel
theorem dX10_gradient_76 : decode cX10_gradient 76 = .ok (.aload_n 0, 1) := by decide +kernel
theorem dX10_gradient_77 : decode cX10_gradient 77 = .ok (.getfield 10, 3) := by decide +kernel
theorem dX10_gradient_80 : decode cX10_gradient 80 = .ok (.getfield 92, 3) := by decide +kernel
theorem dX10_gradient_83 : decode cX10_gradient 83 = .ok (.iconst 1, 1) := by decide +kernel
theorem dX10_gradient_84 : decode cX10_gradient 84 = .ok (.iload 6, 2) := by decide +kernel
theorem dX10_gradient_86 : decode cX10_gradient 86 = .ok (.invokevirtual 99, 3) := by decide +kernel
theorem dX10_gradient_89 : decode cX10_gradient 89 = .ok (.goto 23, 3) := by decide +kernel
theorem dX10_gradient_92 : decode cX10_gradient 92 = .ok (.aload_n 0, 1) := by decide +kernel
theorem dX10_gradient_93 : decode cX10_gradient 93 = .ok (.getfield 10, 3) := by decide +kernel
theorem dX10_gradient_96 : decode cX10_gradient 96 = .ok (.iload 5, 2) := by decide +kernel
theorem dX10_gradient_98 : decode cX10_gradient 98 = .ok (.iconst 0, 1) := by decide +kernel
theorem dX10_gradient_99 : decode cX10_gradient 99 = .ok (.iconst 1, 1) := by decide +kernel
theorem dX10_gradient_100 : decode cX10_gradient 100 = .ok (.aload_n 0, 1) := by decide +kernel
theorem dX10_gradient_101 : decode cX10_gradient 101 = .ok (.getfield 10, 3) := by decide +kernel
theorem dX10_gradient_104 : decode cX10_gradient 104 = .ok (.getfield 96, 3) := by decide +kernel
theorem dX10_gradient_107 : decode cX10_gradient 107 = .ok (.iload 6, 2) := by decide +kernel
theorem dX10_gradient_109 : decode cX10_gradient 109 = .ok (.invokevirtual 99, 3) := by decide +kernel
theorem dX10_gradient_112 : decode cX10_gradient 112 = .ok (.iinc 5 1, 3) := by decide +kernel
theorem dX10_gradient_115 : decode cX10_gradient 115 = .ok (.goto (-68), 3) := by decide +kernel
theorem dX10_gradient_118 : decode cX10_gradient 118 = .ok (.aload_n 0, 1) := by decide +kernel
theorem dX10_gradient_119 : decode cX10_gradient 119 = .ok (.getfield 10, 3) := by decide +kernel
theorem dX10_gradient_122 : decode cX10_gradient 122 = .ok (.invokevirtual 103, 3) := by decide +kernel
theorem dX10_gradient_125 : decode cX10_gradient 125 = .ok (.ireturn, 1) := by decide +kernel
theorem dX10_noise_0 : decode cX10_noise 0 = .ok (.iload_n 1, 1) := by decide +kernel
theorem dX10_noise_1 : decode cX10_noise 1 = .ok (.ifCond .lt 13, 3) := by decide +kernel
theorem dX10_noise_4 : decode cX10_noise 4 = .ok (.iload_n 2, 1) := by decide +kernel
theorem dX10_noise_5 : decode cX10_noise 5 = .ok (.iconst 1, 1) := by decide +kernel
theorem dX10_noise_6 : decode cX10_noise 6 = .ok (.bipush 64, 2) := by decide +kernel
theorem dX10_noise_8 : decode cX10_noise 8 = .ok (.invokestatic 85, 3) := by decide +kernel
theorem dX10_noise_11 : decode cX10_noise 11 = .ok (.ifCond .ne 6, 3) := by decide +kernel
theorem dX10_noise_14 : decode cX10_noise 14 = .ok (.bipush (-2), 2) := by decide +kernel
theorem dX10_noise_16 : decode cX10_noise 16 = .ok (.ireturn, 1) := by decide +kernel
theorem dX10_noise_17 : decode cX10_noise 17 = .ok (.aload_n 0, 1) := by decide +kernel
theorem dX10_noise_18 : decode cX10_noise 18 = .ok (.invokevirtual 89, 3) := by decide +kernel
theorem dX10_noise_21 : decode cX10_noise 21 = .ok (.aload_n 0, 1) := by decide +kernel
theorem dX10_noise_22 : decode cX10_noise 22 = .ok (.getfield 10, 3) := by decide +kernel
theorem dX10_noise_25 : decode cX10_noise 25 = .ok (.iload_n 1, 1) := by decide +kernel
theorem dX10_noise_26 : decode cX10_noise 26 = .ok (.iload_n 2, 1) := by decide +kernel
theorem dX10_noise_27 : decode cX10_noise 27 = .ok (.invokevirtual 120, 3) := by decide +kernel
theorem dX10_noise_30 : decode cX10_noise 30 = .ok (.aload_n 0, 1) := by decide +kernel
theorem dX10_noise_31 : decode cX10_noise 31 = .ok (.getfield 10, 3) := by decide +kernel
theorem dX10_noise_34 : decode cX10_noise 34 = .ok (.invokevirtual 124, 3) := by decide +kernel
theorem dX10_noise_37 : decode cX10_noise 37 = .ok (.ireturn, 1) := by decide +kernel
theorem dX10_pixel_0 : decode cX10_pixel 0 = .ok (.aload_n 0, 1) := by decide +kernel
theorem dX10_pixel_1 : decode cX10_pixel 1 = .ok (.getfield 10, 3) := by decide +kernel
theorem dX10_pixel_4 : decode cX10_pixel 4 = .ok (.iload_n 1, 1) := by decide +kernel
theorem dX10_pixel_5 : decode cX10_pixel 5 = .ok (.iload_n 2, 1) := by decide +kernel
theorem dX10_pixel_6 : decode cX10_pixel 6 = .ok (.invokevirtual 107, 3) := by decide +kernel
theorem dX10_pixel_9 : decode cX10_pixel 9 = .ok (.ifCond .eq 23, 3) := by decide +kernel
theorem dX10_pixel_12 : decode cX10_pixel 12 = .ok (.aload_n 0, 1) := by decide +kernel
theorem dX10_pixel_13 : decode cX10_pixel 13 = .ok (.getfield 10, 3) := by decide +kernel
theorem dX10_pixel_16 : decode cX10_pixel 16 = .ok (.getfield 127, 3) := by decide +kernel
theorem dX10_pixel_19 : decode cX10_pixel 19 = .ok (.aload_n 0, 1) := by decide +kernel
theorem dX10_pixel_20 : decode cX10_pixel 20 = .ok (.getfield 10, 3) := by decide +kernel
theorem dX10_pixel_23 : decode cX10_pixel 23 = .ok (.iload_n 1, 1) := by decide +kernel
theorem dX10_pixel_24 : decode cX10_pixel 24 = .ok (.iload_n 2, 1) := by decide +kernel
theorem dX10_pixel_25 : decode cX10_pixel 25 = .ok (.invokevirtual 131, 3) := by decide +kernel
theorem dX10_pixel_28 : decode cX10_pixel 28 = .ok (.iaload, 1) := by decide +kernel
theorem dX10_pixel_29 : decode cX10_pixel 29 = .ok (.goto 5, 3) := by decide +kernel
theorem dX10_pixel_32 : decode cX10_pixel 32 = .ok (.bipush (-2), 2) := by decide +kernel
theorem dX10_pixel_34 : decode cX10_pixel 34 = .ok (.ireturn, 1) := by decide +kernel
theorem dX10_colors_0 : decode cX10_colors 0 = .ok (.aload_n 0, 1) := by decide +kernel
theorem dX10_colors_1 : decode cX10_colors 1 = .ok (.getfield 35, 3) := by decide +kernel
theorem dX10_colors_4 : decode cX10_colors 4 = .ok (.invokevirtual 135, 3) := by decide +kernel
theorem dX10_colors_7 : decode cX10_colors 7 = .ok (.aload_n 0, 1) := by decide +kernel
theorem dX10_colors_8 : decode cX10_colors 8 = .ok (.getfield 35, 3) := by decide +kernel
theorem dX10_colors_11 : decode cX10_colors 11 = .ok (.getfield 138, 3) := by decide +kernel
theorem dX10_colors_14 : decode cX10_colors 14 = .ok (.ireturn, 1) := by decide +kernel
theorem dX10_color_0 : decode cX10_color 0 = .ok (.iload_n 1, 1) := by decide +kernel
theorem dX10_color_1 : decode cX10_color 1 = .ok (.ifCond .lt 12, 3) := by decide +kernel
theorem dX10_color_4 : decode cX10_color 4 = .ok (.iload_n 2, 1) := by decide +kernel
theorem dX10_color_5 : decode cX10_color 5 = .ok (.iconst 0, 1) := by decide +kernel
theorem dX10_color_6 : decode cX10_color 6 = .ok (.iconst 1, 1) := by decide +kernel
theorem dX10_color_7 : decode cX10_color 7 = .ok (.invokestatic 85, 3) := by decide +kernel
theorem dX10_color_10 : decode cX10_color 10 = .ok (.ifCond .ne 6, 3) := by decide +kernel
theorem dX10_color_13 : decode cX10_color 13 = .ok (.bipush (-2), 2) := by decide +kernel
theorem dX10_color_15 : decode cX10_color 15 = .ok (.ireturn, 1) := by decide +kernel
theorem dX10_color_16 : decode cX10_color 16 = .ok (.aload_n 0, 1) := by decide +kernel
theorem dX10_color_17 : decode cX10_color 17 = .ok (.getfield 35, 3) := by decide +kernel
theorem dX10_color_20 : decode cX10_color 20 = .ok (.invokevirtual 135, 3) := by decide +kernel
theorem dX10_color_23 : decode cX10_color 23 = .ok (.iload_n 1, 1) := by decide +kernel
theorem dX10_color_24 : decode cX10_color 24 = .ok (.aload_n 0, 1) := by decide +kernel
theorem dX10_color_25 : decode cX10_color 25 = .ok (.getfield 35, 3) := by decide +kernel
theorem dX10_color_28 : decode cX10_color 28 = .ok (.getfield 138, 3) := by decide +kernel
theorem dX10_color_31 : decode cX10_color 31 = .ok (.if_icmp .lt 5, 3) := by decide +kernel
theorem dX10_color_34 : decode cX10_color 34 = .ok (.iconst (-1), 1) := by decide +kernel
theorem dX10_color_35 : decode cX10_color 35 = .ok (.ireturn, 1) := by decide +kernel
theorem dX10_color_36 : decode cX10_color 36 = .ok (.aload_n 0, 1) := by decide +kernel
theorem dX10_color_37 : decode cX10_color 37 = .ok (.getfield 35, 3) := by decide +kernel
theorem dX10_color_40 : decode cX10_color 40 = .ok (.invokevirtual 141, 3) := by decide +kernel
theorem dX10_color_43 : decode cX10_color 43 = .ok (.iload_n 2, 1) := by decide +kernel
theorem dX10_color_44 : decode cX10_color 44 = .ok (.ifCond .ne 14, 3) := by decide +kernel
theorem dX10_color_47 : decode cX10_color 47 = .ok (.aload_n 0, 1) := by decide +kernel
theorem dX10_color_48 : decode cX10_color 48 = .ok (.getfield 35, 3) := by decide +kernel
theorem dX10_color_51 : decode cX10_color 51 = .ok (.iload_n 1, 1) := by decide +kernel
theorem dX10_color_52 : decode cX10_color 52 = .ok (.invokevirtual 144, 3) := by decide +kernel
theorem dX10_color_55 : decode cX10_color 55 = .ok (.goto 11, 3) := by decide +kernel
theorem dX10_color_58 : decode cX10_color 58 = .ok (.aload_n 0, 1) := by decide +kernel
theorem dX10_color_59 : decode cX10_color 59 = .ok (.getfield 35, 3) := by decide +kernel
theorem dX10_color_62 : decode cX10_color 62 = .ok (.iload_n 1, 1) := by decide +kernel
theorem dX10_color_63 : decode cX10_color 63 = .ok (.invokevirtual 148, 3) := by decide +kernel
theorem dX10_color_66 : decode cX10_color 66 = .ok (.ireturn, 1) := by decide +kernel
theorem dX10_add_0 : decode cX10_add 0 = .ok (.iload_n 1, 1) := by decide +kernel
theorem dX10_add_1 : decode cX10_add 1 = .ok (.invokestatic 112, 3) := by decide +kernel
theorem dX10_add_4 : decode cX10_add 4 = .ok (.ifCond .ne 6, 3) := by decide +kernel
theorem dX10_add_7 : decode cX10_add 7 = .ok (.bipush (-2), 2) := by decide +kernel
theorem dX10_add_9 : decode cX10_add 9 = .ok (.ireturn, 1) := by decide +kernel
theorem dX10_add_10 : decode cX10_add 10 = .ok (.aload_n 0, 1) := by decide +kernel
theorem dX10_add_11 : decode cX10_add 11 = .ok (.getfield 10, 3) := by decide +kernel
theorem dX10_add_14 : decode cX10_add 14 = .ok (.getfield 151, 3) := by decide +kernel
theorem dX10_add_17 : decode cX10_add 17 = .ok (.bipush 16, 2) := by decide +kernel
theorem dX10_add_19 : decode cX10_add 19 = .ok (.if_icmp .lt 6, 3) := by decide +kernel
theorem dX10_add_22 : decode cX10_add 22 = .ok (.bipush (-4), 2) := by decide +kernel
theorem dX10_add_24 : decode cX10_add 24 = .ok (.ireturn, 1) := by decide +kernel
theorem dX10_add_25 : decode cX10_add 25 = .ok (.aload_n 0, 1) := by decide +kernel
theorem dX10_add_26 : decode cX10_add 26 = .ok (.invokevirtual 89, 3) := by decide +kernel
theorem dX10_add_29 : decode cX10_add 29 = .ok (.aload_n 0, 1) := by decide +kernel
theorem dX10_add_30 : decode cX10_add 30 = .ok (.getfield 10, 3) := by decide +kernel
theorem dX10_add_33 : decode cX10_add 33 = .ok (.iload_n 1, 1) := by decide +kernel
theorem dX10_add_34 : decode cX10_add 34 = .ok (.iload_n 2, 1) := by decide +kernel
theorem dX10_add_35 : decode cX10_add 35 = .ok (.invokevirtual 152, 3) := by decide +kernel
theorem dX10_add_38 : decode cX10_add 38 = .ok (.aload_n 0, 1) := by decide +kernel
theorem dX10_add_39 : decode cX10_add 39 = .ok (.getfield 10, 3) := by decide +kernel
theorem dX10_add_42 : decode cX10_add 42 = .ok (.getfield 151, 3) := by decide +kernel
theorem dX10_add_45 : decode cX10_add 45 = .ok (.iconst 1, 1) := by decide +kernel
theorem dX10_add_46 : decode cX10_add 46 = .ok (.isub, 1) := by decide +kernel
theorem dX10_add_47 : decode cX10_add 47 = .ok (.ireturn, 1) := by decide +kernel
theorem dX10_remove_0 : decode cX10_remove 0 = .ok (.aload_n 0, 1) := by decide +kernel
theorem dX10_remove_1 : decode cX10_remove 1 = .ok (.getfield 10, 3) := by decide +kernel
theorem dX10_remove_4 : decode cX10_remove 4 = .ok (.iload_n 1, 1) := by decide +kernel
theorem dX10_remove_5 : decode cX10_remove 5 = .ok (.invokevirtual 156, 3) := by decide +kernel
theorem dX10_remove_8 : decode cX10_remove 8 = .ok (.ifCond .ne 6, 3) := by decide +kernel
theorem dX10_remove_11 : decode cX10_remove 11 = .ok (.bipush (-2), 2) := by decide +kernel
theorem dX10_remove_13 : decode cX10_remove 13 = .ok (.ireturn, 1) := by decide +kernel
theorem dX10_remove_14 : decode cX10_remove 14 = .ok (.aload_n 0, 1) := by decide +kernel
theorem dX10_remove_15 : decode cX10_remove 15 = .ok (.getfield 10, 3) := by decide +kernel
theorem dX10_remove_18 : decode cX10_remove 18 = .ok (.getfield 159, 3) := by decide +kernel
theorem dX10_remove_21 : decode cX10_remove 21 = .ok (.iload_n 1, 1) := by decide +kernel
theorem dX10_remove_22 : decode cX10_remove 22 = .ok (.baload, 1) := by decide +kernel
theorem dX10_remove_23 : decode cX10_remove 23 = .ok (.ifCond .eq 6, 3) := by decide +kernel
theorem dX10_remove_26 : decode cX10_remove 26 = .ok (.bipush (-3), 2) := by decide +kernel
theorem dX10_remove_28 : decode cX10_remove 28 = .ok (.ireturn, 1) := by decide +kernel
theorem dX10_remove_29 : decode cX10_remove 29 = .ok (.aload_n 0, 1) := by decide +kernel
theorem dX10_remove_30 : decode cX10_remove 30 = .ok (.invokevirtual 89, 3) := by decide +kernel
theorem dX10_remove_33 : decode cX10_remove 33 = .ok (.aload_n 0, 1) := by decide +kernel
theorem dX10_remove_34 : decode cX10_remove 34 = .ok (.getfield 10, 3) := by decide +kernel
theorem dX10_remove_37 : decode cX10_remove 37 = .ok (.getfield 163, 3) := by decide +kernel
theorem dX10_remove_40 : decode cX10_remove 40 = .ok (.iload_n 1, 1) := by decide +kernel
theorem dX10_remove_41 : decode cX10_remove 41 = .ok (.iaload, 1) := by decide +kernel
theorem dX10_remove_42 : decode cX10_remove 42 = .ok (.istore_n 2, 1) := by decide +kernel
theorem dX10_remove_43 : decode cX10_remove 43 = .ok (.aload_n 0, 1) := by decide +kernel
theorem dX10_remove_44 : decode cX10_remove 44 = .ok (.getfield 10, 3) := by decide +kernel
theorem dX10_remove_47 : decode cX10_remove 47 = .ok (.iload_n 1, 1) := by decide +kernel
theorem dX10_remove_48 : decode cX10_remove 48 = .ok (.invokevirtual 166, 3) := by decide +kernel
theorem dX10_remove_51 : decode cX10_remove 51 = .ok (.iload_n 2, 1) := by decide +kernel
theorem dX10_remove_52 : decode cX10_remove 52 = .ok (.ireturn, 1) := by decide +kernel
theorem dX10_lock_0 : decode cX10_lock 0 = .ok (.aload_n 0, 1) := by decide +kernel
theorem dX10_lock_1 : decode cX10_lock 1 = .ok (.getfield 10, 3) := by decide +kernel
theorem dX10_lock_4 : decode cX10_lock 4 = .ok (.iload_n 1, 1) := by decide +kernel
theorem dX10_lock_5 : decode cX10_lock 5 = .ok (.invokevirtual 156, 3) := by decide +kernel
theorem dX10_lock_8 : decode cX10_lock 8 = .ok (.ifCond .ne 6, 3) := by decide +kernel
theorem dX10_lock_11 : decode cX10_lock 11 = .ok (.bipush (-2), 2) := by decide +kernel
theorem dX10_lock_13 : decode cX10_lock 13 = .ok (.ireturn, 1) := by decide +kernel
theorem dX10_lock_14 : decode cX10_lock 14 = .ok (.aload_n 0, 1) := by decide +kernel
theorem dX10_lock_15 : decode cX10_lock 15 = .ok (.getfield 19, 3) := by decide +kernel
theorem dX10_lock_18 : decode cX10_lock 18 = .ok (.aload_n 0, 1) := by decide +kernel
theorem dX10_lock_19 : decode cX10_lock 19 = .ok (.getfield 10, 3) := by decide +kernel
theorem dX10_lock_22 : decode cX10_lock 22 = .ok (.invokevirtual 170, 3) := by decide +kernel
theorem dX10_lock_25 : decode cX10_lock 25 = .ok (.aload_n 0, 1) := by decide +kernel
theorem dX10_lock_26 : decode cX10_lock 26 = .ok (.getfield 10, 3) := by decide +kernel
theorem dX10_lock_29 : decode cX10_lock 29 = .ok (.getfield 159, 3) := by decide +kernel
theorem dX10_lock_32 : decode cX10_lock 32 = .ok (.iload_n 1, 1) := by decide +kernel
theorem dX10_lock_33 : decode cX10_lock 33 = .ok (.baload, 1) := by decide +kernel
theorem dX10_lock_34 : decode cX10_lock 34 = .ok (.ifCond .eq 7, 3) := by decide +kernel
theorem dX10_lock_37 : decode cX10_lock 37 = .ok (.iconst 1, 1) := by decide +kernel
theorem dX10_lock_38 : decode cX10_lock 38 = .ok (.goto 4, 3) := by decide +kernel
theorem dX10_lock_41 : decode cX10_lock 41 = .ok (.iconst 0, 1) := by decide +kernel
theorem dX10_lock_42 : decode cX10_lock 42 = .ok (.istore_n 3, 1) := by decide +kernel
theorem dX10_lock_43 : decode cX10_lock 43 = .ok (.aload_n 0, 1) := by decide +kernel
theorem dX10_lock_44 : decode cX10_lock 44 = .ok (.getfield 10, 3) := by decide +kernel
theorem dX10_lock_47 : decode cX10_lock 47 = .ok (.getfield 159, 3) := by decide +kernel
theorem dX10_lock_50 : decode cX10_lock 50 = .ok (.iload_n 1, 1) := by decide +kernel
theorem dX10_lock_51 : decode cX10_lock 51 = .ok (.iload_n 2, 1) := by decide +kernel
theorem dX10_lock_52 : decode cX10_lock 52 = .ok (.bastore, 1) := by decide +kernel
theorem dX10_lock_53 : decode cX10_lock 53 = .ok (.iload_n 3, 1) := by decide +kernel
theorem dX10_lock_54 : decode cX10_lock 54 = .ok (.ireturn, 1) := by decide +kernel
theorem dX10_swap_0 : decode cX10_swap 0 = .ok (.aload_n 0, 1) := by decide +kernel
theorem dX10_swap_1 : decode cX10_swap 1 = .ok (.getfield 10, 3) := by decide +kernel
theorem dX10_swap_4 : decode cX10_swap 4 = .ok (.iload_n 1, 1) := by decide +kernel
theorem dX10_swap_5 : decode cX10_swap 5 = .ok (.invokevirtual 156, 3) := by decide +kernel
theorem dX10_swap_8 : decode cX10_swap 8 = .ok (.ifCond .eq 14, 3) := by decide +kernel
theorem dX10_swap_11 : decode cX10_swap 11 = .ok (.aload_n 0, 1) := by decide +kernel
theorem dX10_swap_12 : decode cX10_swap 12 = .ok (.getfield 10, 3) := by decide +kernel
theorem dX10_swap_15 : decode cX10_swap 15 = .ok (.iload_n 2, 1) := by decide +kernel
theorem dX10_swap_16 : decode cX10_swap 16 = .ok (.invokevirtual 156, 3) := by decide +kernel
theorem dX10_swap_19 : decode cX10_swap 19 = .ok (.ifCond .ne 6, 3) := by decide +kernel
theorem dX10_swap_22 : decode cX10_swap 22 = .ok (.bipush (-2), 2) := by decide +kernel
theorem dX10_swap_24 : decode cX10_swap 24 = .ok (.ireturn, 1) := by decide +kernel
theorem dX10_swap_25 : decode cX10_swap 25 = .ok (.aload_n 0, 1) := by decide +kernel
theorem dX10_swap_26 : decode cX10_swap 26 = .ok (.getfield 19, 3) := by decide +kernel
theorem dX10_swap_29 : decode cX10_swap 29 = .ok (.aload_n 0, 1) := by decide +kernel
theorem dX10_swap_30 : decode cX10_swap 30 = .ok (.getfield 10, 3) := by decide +kernel
theorem dX10_swap_33 : decode cX10_swap 33 = .ok (.invokevirtual 170, 3) := by decide +kernel
theorem dX10_swap_36 : decode cX10_swap 36 = .ok (.aload_n 0, 1) := by decide +kernel
theorem dX10_swap_37 : decode cX10_swap 37 = .ok (.getfield 10, 3) := by decide +kernel
theorem dX10_swap_40 : decode cX10_swap 40 = .ok (.getfield 163, 3) := by decide +kernel
theorem dX10_swap_43 : decode cX10_swap 43 = .ok (.iload_n 1, 1) := by decide +kernel
theorem dX10_swap_44 : decode cX10_swap 44 = .ok (.iaload, 1) := by decide +kernel
theorem dX10_swap_45 : decode cX10_swap 45 = .ok (.istore_n 3, 1) := by decide +kernel
theorem dX10_swap_46 : decode cX10_swap 46 = .ok (.aload_n 0, 1) := by decide +kernel
theorem dX10_swap_47 : decode cX10_swap 47 = .ok (.getfield 10, 3) := by decide +kernel
theorem dX10_swap_50 : decode cX10_swap 50 = .ok (.iload_n 1, 1) := by decide +kernel
theorem dX10_swap_51 : decode cX10_swap 51 = .ok (.iload_n 2, 1) := by decide +kernel
theorem dX10_swap_52 : decode cX10_swap 52 = .ok (.invokevirtual 173, 3) := by decide +kernel
theorem dX10_swap_55 : decode cX10_swap 55 = .ok (.iload_n 3, 1) := by decide +kernel
theorem dX10_swap_56 : decode cX10_swap 56 = .ok (.ireturn, 1) := by decide +kernel
theorem dX10_setMetric_0 : decode cX10_setMetric 0 = .ok (.iload_n 1, 1) := by decide +kernel
theorem dX10_setMetric_1 : decode cX10_setMetric 1 = .ok (.iconst 0, 1) := by decide +kernel
theorem dX10_setMetric_2 : decode cX10_setMetric 2 = .ok (.iconst 1, 1) := by decide +kernel
theorem dX10_setMetric_3 : decode cX10_setMetric 3 = .ok (.invokestatic 85, 3) := by decide +kernel
theorem dX10_setMetric_6 : decode cX10_setMetric 6 = .ok (.ifCond .ne 6, 3) := by decide +kernel
theorem dX10_setMetric_9 : decode cX10_setMetric 9 = .ok (.bipush (-2), 2) := by decide +kernel
theorem dX10_setMetric_11 : decode cX10_setMetric 11 = .ok (.ireturn, 1) := by decide +kernel
theorem dX10_setMetric_12 : decode cX10_setMetric 12 = .ok (.aload_n 0, 1) := by decide +kernel
theorem dX10_setMetric_13 : decode cX10_setMetric 13 = .ok (.getfield 19, 3) := by decide +kernel
theorem dX10_setMetric_16 : decode cX10_setMetric 16 = .ok (.aload_n 0, 1) := by decide +kernel
theorem dX10_setMetric_17 : decode cX10_setMetric 17 = .ok (.getfield 10, 3) := by decide +kernel
theorem dX10_setMetric_20 : decode cX10_setMetric 20 = .ok (.invokevirtual 170, 3) := by decide +kernel
theorem dX10_setMetric_23 : decode cX10_setMetric 23 = .ok (.aload_n 0, 1) := by decide +kernel
theorem dX10_setMetric_24 : decode cX10_setMetric 24 = .ok (.getfield 10, 3) := by decide +kernel
theorem dX10_setMetric_27 : decode cX10_setMetric 27 = .ok (.getfield 176, 3) := by decide +kernel
theorem dX10_setMetric_30 : decode cX10_setMetric 30 = .ok (.istore_n 2, 1) := by decide +kernel
theorem dX10_setMetric_31 : decode cX10_setMetric 31 = .ok (.aload_n 0, 1) := by decide +kernel
theorem dX10_setMetric_32 : decode cX10_setMetric 32 = .ok (.getfield 10, 3) := by decide +kernel
theorem dX10_setMetric_35 : decode cX10_setMetric 35 = .ok (.iload_n 1, 1) := by decide +kernel
theorem dX10_setMetric_36 : decode cX10_setMetric 36 = .ok (.putfield 176, 3) := by decide +kernel
theorem dX10_setMetric_39 : decode cX10_setMetric 39 = .ok (.iload_n 2, 1) := by decide +kernel
theorem dX10_setMetric_40 : decode cX10_setMetric 40 = .ok (.ireturn, 1) := by decide +kernel
theorem dX10_entry_0 : decode cX10_entry 0 = .ok (.aload_n 0, 1) := by decide +kernel
theorem dX10_entry_1 : decode cX10_entry 1 = .ok (.getfield 10, 3) := by decide +kernel
theorem dX10_entry_4 : decode cX10_entry 4 = .ok (.iload_n 1, 1) := by decide +kernel
theorem dX10_entry_5 : decode cX10_entry 5 = .ok (.invokevirtual 156, 3) := by decide +kernel
theorem dX10_entry_8 : decode cX10_entry 8 = .ok (.ifCond .eq 12, 3) := by decide +kernel
theorem dX10_entry_11 : decode cX10_entry 11 = .ok (.iload_n 2, 1) := by decide +kernel
theorem dX10_entry_12 : decode cX10_entry 12 = .ok (.iconst 0, 1) := by decide +kernel
theorem dX10_entry_13 : decode cX10_entry 13 = .ok (.iconst 3, 1) := by decide +kernel
theorem dX10_entry_14 : decode cX10_entry 14 = .ok (.invokestatic 85, 3) := by decide +kernel
theorem dX10_entry_17 : decode cX10_entry 17 = .ok (.ifCond .ne 6, 3) := by decide +kernel
theorem dX10_entry_20 : decode cX10_entry 20 = .ok (.bipush (-2), 2) := by decide +kernel
theorem dX10_entry_22 : decode cX10_entry 22 = .ok (.ireturn, 1) := by decide +kernel
theorem dX10_entry_23 : decode cX10_entry 23 = .ok (.iload_n 2, 1) := by decide +kernel
theorem dX10_entry_24 : decode cX10_entry 24 = .ok (.ifCond .ne 13, 3) := by decide +kernel
theorem dX10_entry_27 : decode cX10_entry 27 = .ok (.aload_n 0, 1) := by decide +kernel
theorem dX10_entry_28 : decode cX10_entry 28 = .ok (.getfield 10, 3) := by decide +kernel
theorem dX10_entry_31 : decode cX10_entry 31 = .ok (.getfield 163, 3) := by decide +kernel
theorem dX10_entry_34 : decode cX10_entry 34 = .ok (.iload_n 1, 1) := by decide +kernel
theorem dX10_entry_35 : decode cX10_entry 35 = .ok (.iaload, 1) := by decide +kernel
theorem dX10_entry_36 : decode cX10_entry 36 = .ok (.ireturn, 1) := by decide +kernel
theorem dX10_entry_37 : decode cX10_entry 37 = .ok (.iload_n 2, 1) := by decide +kernel
theorem dX10_entry_38 : decode cX10_entry 38 = .ok (.iconst 1, 1) := by decide +kernel
theorem dX10_entry_39 : decode cX10_entry 39 = .ok (.if_icmp .ne 21, 3) := by decide +kernel
theorem dX10_entry_42 : decode cX10_entry 42 = .ok (.aload_n 0, 1) := by decide +kernel
theorem dX10_entry_43 : decode cX10_entry 43 = .ok (.getfield 10, 3) := by decide +kernel
theorem dX10_entry_46 : decode cX10_entry 46 = .ok (.getfield 159, 3) := by decide +kernel
theorem dX10_entry_49 : decode cX10_entry 49 = .ok (.iload_n 1, 1) := by decide +kernel
theorem dX10_entry_50 : decode cX10_entry 50 = .ok (.baload, 1) := by decide +kernel
theorem dX10_entry_51 : decode cX10_entry 51 = .ok (.ifCond .eq 7, 3) := by decide +kernel
theorem dX10_entry_54 : decode cX10_entry 54 = .ok (.iconst 1, 1) := by decide +kernel
theorem dX10_entry_55 : decode cX10_entry 55 = .ok (.goto 4, 3) := by decide +kernel
theorem dX10_entry_58 : decode cX10_entry 58 = .ok (.iconst 0, 1) := by decide +kernel
theorem dX10_entry_59 : decode cX10_entry 59 = .ok (.ireturn, 1) := by decide +kernel
theorem dX10_entry_60 : decode cX10_entry 60 = .ok (.iload_n 2, 1) := by decide +kernel
theorem dX10_entry_61 : decode cX10_entry 61 = .ok (.iconst 3, 1) := by decide +kernel
theorem dX10_entry_62 : decode cX10_entry 62 = .ok (.if_icmp .ne 12, 3) := by decide +kernel
theorem dX10_entry_65 : decode cX10_entry 65 = .ok (.aload_n 0, 1) := by decide +kernel
theorem dX10_entry_66 : decode cX10_entry 66 = .ok (.getfield 10, 3) := by decide +kernel
theorem dX10_entry_69 : decode cX10_entry 69 = .ok (.iload_n 1, 1) := by decide +kernel
theorem dX10_entry_70 : decode cX10_entry 70 = .ok (.invokevirtual 179, 3) := by decide +kernel
theorem dX10_entry_73 : decode cX10_entry 73 = .ok (.ireturn, 1) := by decide +kernel
theorem dX10_entry_74 : decode cX10_entry 74 = .ok (.aload_n 0, 1) := by decide +kernel
theorem dX10_entry_75 : decode cX10_entry 75 = .ok (.getfield 42, 3) := by decide +kernel
theorem dX10_entry_78 : decode cX10_entry 78 = .ok (.invokevirtual 182, 3) := by decide +kernel
theorem dX10_entry_81 : decode cX10_entry 81 = .ok (.aload_n 0, 1) := by decide +kernel
theorem dX10_entry_82 : decode cX10_entry 82 = .ok (.getfield 42, 3) := by decide +kernel
theorem dX10_entry_85 : decode cX10_entry 85 = .ok (.getfield 185, 3) := by decide +kernel
theorem dX10_entry_88 : decode cX10_entry 88 = .ok (.iload_n 1, 1) := by decide +kernel
theorem dX10_entry_89 : decode cX10_entry 89 = .ok (.iaload, 1) := by decide +kernel
theorem dX10_entry_90 : decode cX10_entry 90 = .ok (.ireturn, 1) := by decide +kernel
theorem dX10_nearest_0 : decode cX10_nearest 0 = .ok (.iload_n 1, 1) := by decide +kernel
theorem dX10_nearest_1 : decode cX10_nearest 1 = .ok (.invokestatic 112, 3) := by decide +kernel
theorem dX10_nearest_4 : decode cX10_nearest 4 = .ok (.ifCond .eq 14, 3) := by decide +kernel
theorem dX10_nearest_7 : decode cX10_nearest 7 = .ok (.aload_n 0, 1) := by decide +kernel
theorem dX10_nearest_8 : decode cX10_nearest 8 = .ok (.getfield 10, 3) := by decide +kernel
theorem dX10_nearest_11 : decode cX10_nearest 11 = .ok (.iload_n 1, 1) := by decide +kernel
theorem dX10_nearest_12 : decode cX10_nearest 12 = .ok (.invokevirtual 188, 3) := by decide +kernel
theorem dX10_nearest_15 : decode cX10_nearest 15 = .ok (.goto 5, 3) := by decide +kernel
theorem dX10_nearest_18 : decode cX10_nearest 18 = .ok (.bipush (-2), 2) := by decide +kernel
theorem dX10_nearest_20 : decode cX10_nearest 20 = .ok (.ireturn, 1) := by decide +kernel
theorem dX10_type_0 : decode cX10_type 0 = .ok (.iload_n 1, 1) := by decide +kernel
theorem dX10_type_1 : decode cX10_type 1 = .ok (.iconst 0, 1) := by decide +kernel
theorem dX10_type_2 : decode cX10_type 2 = .ok (.bipush 127, 2) := by decide +kernel
theorem dX10_type_4 : decode cX10_type 4 = .ok (.invokestatic 85, 3) := by decide +kernel
theorem dX10_type_7 : decode cX10_type 7 = .ok (.ifCond .ne 6, 3) := by decide +kernel
theorem dX10_type_10 : decode cX10_type 10 = .ok (.bipush (-2), 2) := by decide +kernel
theorem dX10_type_12 : decode cX10_type 12 = .ok (.ireturn, 1) := by decide +kernel
theorem dX10_type_13 : decode cX10_type 13 = .ok (.aload_n 0, 1) := by decide +kernel
theorem dX10_type_14 : decode cX10_type 14 = .ok (.getfield 26, 3) := by decide +kernel
theorem dX10_type_17 : decode cX10_type 17 = .ok (.iload_n 1, 1) := by decide +kernel
theorem dX10_type_18 : decode cX10_type 18 = .ok (.invokevirtual 191, 3) := by decide +kernel
theorem dX10_type_21 : decode cX10_type 21 = .ok (.ifCond .eq 13, 3) := by decide +kernel
theorem dX10_type_24 : decode cX10_type 24 = .ok (.aload_n 0, 1) := by decide +kernel
theorem dX10_type_25 : decode cX10_type 25 = .ok (.getfield 26, 3) := by decide +kernel
theorem dX10_type_28 : decode cX10_type 28 = .ok (.getfield 193, 3) := by decide +kernel
theorem dX10_type_31 : decode cX10_type 31 = .ok (.goto 5, 3) := by decide +kernel
theorem dX10_type_34 : decode cX10_type 34 = .ok (.bipush (-4), 2) := by decide +kernel
theorem dX10_type_36 : decode cX10_type 36 = .ok (.ireturn, 1) := by decide +kernel
theorem dX10_clearText_0 : decode cX10_clearText 0 = .ok (.aload_n 0, 1) := by decide +kernel
theorem dX10_clearText_1 : decode cX10_clearText 1 = .ok (.getfield 26, 3) := by decide +kernel
theorem dX10_clearText_4 : decode cX10_clearText 4 = .ok (.getfield 193, 3) := by decide +kernel
theorem dX10_clearText_7 : decode cX10_clearText 7 = .ok (.istore_n 1, 1) := by decide +kernel
theorem dX10_clearText_8 : decode cX10_clearText 8 = .ok (.aload_n 0, 1) := by decide +kernel
theorem dX10_clearText_9 : decode cX10_clearText 9 = .ok (.getfield 26, 3) := by decide +kernel
theorem dX10_clearText_12 : decode cX10_clearText 12 = .ok (.iconst 0, 1) := by decide +kernel
theorem dX10_clearText_13 : decode cX10_clearText 13 = .ok (.putfield 193, 3) := by decide +kernel
theorem dX10_clearText_16 : decode cX10_clearText 16 = .ok (.iload_n 1, 1) := by decide +kernel
theorem dX10_clearText_17 : decode cX10_clearText 17 = .ok (.ireturn, 1) := by decide +kernel
theorem dX10_fault_0 : decode cX10_fault 0 = .ok (.aload_n 0, 1) := by decide +kernel
theorem dX10_fault_1 : decode cX10_fault 1 = .ok (.getfield 26, 3) := by decide +kernel
theorem dX10_fault_4 : decode cX10_fault 4 = .ok (.invokevirtual 196, 3) := by decide +kernel
theorem dX10_fault_7 : decode cX10_fault 7 = .ok (.ireturn, 1) := by decide +kernel
theorem dX10_load_0 : decode cX10_load 0 = .ok (.aload_n 0, 1) := by decide +kernel
theorem dX10_load_1 : decode cX10_load 1 = .ok (.getfield 26, 3) := by decide +kernel
theorem dX10_load_4 : decode cX10_load 4 = .ok (.invokevirtual 196, 3) := by decide +kernel
theorem dX10_load_7 : decode cX10_load 7 = .ok (.iconst (-1), 1) := by decide +kernel
theorem dX10_load_8 : decode cX10_load 8 = .ok (.if_icmp .eq 6, 3) := by decide +kernel
theorem dX10_load_11 : decode cX10_load 11 = .ok (.bipush (-3), 2) := by decide +kernel
theorem dX10_load_13 : decode cX10_load 13 = .ok (.ireturn, 1) := by decide +kernel
theorem dX10_load_14 : decode cX10_load 14 = .ok (.aload_n 0, 1) := by decide +kernel
theorem dX10_load_15 : decode cX10_load 15 = .ok (.invokevirtual 89, 3) := by decide +kernel
theorem dX10_load_18 : decode cX10_load 18 = .ok (.aload_n 0, 1) := by decide +kernel
theorem dX10_load_19 : decode cX10_load 19 = .ok (.getfield 10, 3) := by decide +kernel
theorem dX10_load_22 : decode cX10_load 22 = .ok (.iconst 0, 1) := by decide +kernel
theorem dX10_load_23 : decode cX10_load 23 = .ok (.putfield 151, 3) := by decide +kernel
theorem dX10_load_26 : decode cX10_load 26 = .ok (.iconst 0, 1) := by decide +kernel
theorem dX10_load_27 : decode cX10_load 27 = .ok (.istore_n 1, 1) := by decide +kernel
theorem dX10_load_28 : decode cX10_load 28 = .ok (.iload_n 1, 1) := by decide +kernel
theorem dX10_load_29 : decode cX10_load 29 = .ok (.aload_n 0, 1) := by decide +kernel
theorem dX10_load_30 : decode cX10_load 30 = .ok (.getfield 26, 3) := by decide +kernel
theorem dX10_load_33 : decode cX10_load 33 = .ok (.getfield 199, 3) := by decide +kernel
theorem dX10_load_36 : decode cX10_load 36 = .ok (.if_icmp .ge 34, 3) := by decide +kernel
theorem dX10_load_39 : decode cX10_load 39 = .ok (.aload_n 0, 1) := by decide +kernel
theorem dX10_load_40 : decode cX10_load 40 = .ok (.getfield 10, 3) := by decide +kernel
theorem dX10_load_43 : decode cX10_load 43 = .ok (.aload_n 0, 1) := by decide +kernel
theorem dX10_load_44 : decode cX10_load 44 = .ok (.getfield 26, 3) := by decide +kernel
theorem dX10_load_47 : decode cX10_load 47 = .ok (.getfield 202, 3) := by decide +kernel
theorem dX10_load_50 : decode cX10_load 50 = .ok (.iload_n 1, 1) := by decide +kernel
theorem dX10_load_51 : decode cX10_load 51 = .ok (.iaload, 1) := by decide +kernel
theorem dX10_load_52 : decode cX10_load 52 = .ok (.aload_n 0, 1) := by decide +kernel
theorem dX10_load_53 : decode cX10_load 53 = .ok (.getfield 26, 3) := by decide +kernel
theorem dX10_load_56 : decode cX10_load 56 = .ok (.getfield 205, 3) := by decide +kernel
theorem dX10_load_59 : decode cX10_load 59 = .ok (.iload_n 1, 1) := by decide +kernel
theorem dX10_load_60 : decode cX10_load 60 = .ok (.baload, 1) := by decide +kernel
theorem dX10_load_61 : decode cX10_load 61 = .ok (.invokevirtual 152, 3) := by decide +kernel
theorem dX10_load_64 : decode cX10_load 64 = .ok (.iinc 1 1, 3) := by decide +kernel
theorem dX10_load_67 : decode cX10_load 67 = .ok (.goto (-39), 3) := by decide +kernel
theorem dX10_load_70 : decode cX10_load 70 = .ok (.aload_n 0, 1) := by decide +kernel
theorem dX10_load_71 : decode cX10_load 71 = .ok (.getfield 26, 3) := by decide +kernel
theorem dX10_load_74 : decode cX10_load 74 = .ok (.iconst 0, 1) := by decide +kernel
theorem dX10_load_75 : decode cX10_load 75 = .ok (.putfield 193, 3) := by decide +kernel
theorem dX10_load_78 : decode cX10_load 78 = .ok (.aload_n 0, 1) := by decide +kernel
theorem dX10_load_79 : decode cX10_load 79 = .ok (.getfield 10, 3) := by decide +kernel
theorem dX10_load_82 : decode cX10_load 82 = .ok (.getfield 151, 3) := by decide +kernel
theorem dX10_load_85 : decode cX10_load 85 = .ok (.ireturn, 1) := by decide +kernel
theorem dX10_build_0 : decode cX10_build 0 = .ok (.iload_n 1, 1) := by decide +kernel
theorem dX10_build_1 : decode cX10_build 1 = .ok (.iconst 1, 1) := by decide +kernel
theorem dX10_build_2 : decode cX10_build 2 = .ok (.bipush 16, 2) := by decide +kernel
theorem dX10_build_4 : decode cX10_build 4 = .ok (.invokestatic 85, 3) := by decide +kernel
theorem dX10_build_7 : decode cX10_build 7 = .ok (.ifCond .eq 12, 3) := by decide +kernel
theorem dX10_build_10 : decode cX10_build 10 = .ok (.iload_n 2, 1) := by decide +kernel
theorem dX10_build_11 : decode cX10_build 11 = .ok (.iconst 0, 1) := by decide +kernel
theorem dX10_build_12 : decode cX10_build 12 = .ok (.iconst 2, 1) := by decide +kernel
theorem dX10_build_13 : decode cX10_build 13 = .ok (.invokestatic 85, 3) := by decide +kernel
theorem dX10_build_16 : decode cX10_build 16 = .ok (.ifCond .ne 6, 3) := by decide +kernel
theorem dX10_build_19 : decode cX10_build 19 = .ok (.bipush (-2), 2) := by decide +kernel
theorem dX10_build_21 : decode cX10_build 21 = .ok (.ireturn, 1) := by decide +kernel
theorem dX10_build_22 : decode cX10_build 22 = .ok (.aload_n 0, 1) := by decide +kernel
theorem dX10_build_23 : decode cX10_build 23 = .ok (.getfield 10, 3) := by decide +kernel
theorem dX10_build_26 : decode cX10_build 26 = .ok (.invokevirtual 206, 3) := by decide +kernel
theorem dX10_build_29 : decode cX10_build 29 = .ok (.iload_n 1, 1) := by decide +kernel
theorem dX10_build_30 : decode cX10_build 30 = .ok (.if_icmp .le 6, 3) := by decide +kernel
theorem dX10_build_33 : decode cX10_build 33 = .ok (.bipush (-3), 2) := by decide +kernel
theorem dX10_build_35 : decode cX10_build 35 = .ok (.ireturn, 1) := by decide +kernel
theorem dX10_build_36 : decode cX10_build 36 = .ok (.aload_n 0, 1) := by decide +kernel
theorem dX10_build_37 : decode cX10_build 37 = .ok (.invokevirtual 89, 3) := by decide +kernel
theorem dX10_build_40 : decode cX10_build 40 = .ok (.aload_n 0, 1) := by decide +kernel
theorem dX10_build_41 : decode cX10_build 41 = .ok (.getfield 10, 3) := by decide +kernel
theorem dX10_build_44 : decode cX10_build 44 = .ok (.invokevirtual 209, 3) := by decide +kernel
theorem dX10_build_47 : decode cX10_build 47 = .ok (.aload_n 0, 1) := by decide +kernel
theorem dX10_build_48 : decode cX10_build 48 = .ok (.getfield 51, 3) := by decide +kernel
theorem dX10_build_51 : decode cX10_build 51 = .ok (.iload_n 1, 1) := by decide +kernel
theorem dX10_build_52 : decode cX10_build 52 = .ok (.iload_n 2, 1) := by decide +kernel
theorem dX10_build_53 : decode cX10_build 53 = .ok (.invokevirtual 212, 3) := by decide +kernel
theorem dX10_build_56 : decode cX10_build 56 = .ok (.aload_n 0, 1) := by decide +kernel
theorem dX10_build_57 : decode cX10_build 57 = .ok (.getfield 10, 3) := by decide +kernel
theorem dX10_build_60 : decode cX10_build 60 = .ok (.getfield 151, 3) := by decide +kernel
theorem dX10_build_63 : decode cX10_build 63 = .ok (.ireturn, 1) := by decide +kernel
theorem dX10_refine_0 : decode cX10_refine 0 = .ok (.iload_n 1, 1) := by decide +kernel
theorem dX10_refine_1 : decode cX10_refine 1 = .ok (.iconst 1, 1) := by decide +kernel
theorem dX10_refine_2 : decode cX10_refine 2 = .ok (.bipush 20, 2) := by decide +kernel
theorem dX10_refine_4 : decode cX10_refine 4 = .ok (.invokestatic 85, 3) := by decide +kernel
theorem dX10_refine_7 : decode cX10_refine 7 = .ok (.ifCond .ne 6, 3) := by decide +kernel
theorem dX10_refine_10 : decode cX10_refine 10 = .ok (.bipush (-2), 2) := by decide +kernel
theorem dX10_refine_12 : decode cX10_refine 12 = .ok (.ireturn, 1) := by decide +kernel
theorem dX10_refine_13 : decode cX10_refine 13 = .ok (.aload_n 0, 1) := by decide +kernel
theorem dX10_refine_14 : decode cX10_refine 14 = .ok (.getfield 10, 3) := by decide +kernel
theorem dX10_refine_17 : decode cX10_refine 17 = .ok (.getfield 151, 3) := by decide +kernel
theorem dX10_refine_20 : decode cX10_refine 20 = .ok (.ifCond .ne 6, 3) := by decide +kernel
theorem dX10_refine_23 : decode cX10_refine 23 = .ok (.bipush (-3), 2) := by decide +kernel
theorem dX10_refine_25 : decode cX10_refine 25 = .ok (.ireturn, 1) := by decide +kernel
theorem dX10_refine_26 : decode cX10_refine 26 = .ok (.aload_n 0, 1) := by decide +kernel
theorem dX10_refine_27 : decode cX10_refine 27 = .ok (.invokevirtual 89, 3) := by decide +kernel
theorem dX10_refine_30 : decode cX10_refine 30 = .ok (.iconst 0, 1) := by decide +kernel
theorem dX10_refine_31 : decode cX10_refine 31 = .ok (.istore_n 2, 1) := by decide +kernel
theorem dX10_refine_32 : decode cX10_refine 32 = .ok (.iload_n 2, 1) := by decide +kernel
theorem dX10_refine_33 : decode cX10_refine 33 = .ok (.iload_n 1, 1) := by decide +kernel
theorem dX10_refine_34 : decode cX10_refine 34 = .ok (.if_icmp .ge 21, 3) := by decide +kernel
theorem dX10_refine_37 : decode cX10_refine 37 = .ok (.aload_n 0, 1) := by decide +kernel
theorem dX10_refine_38 : decode cX10_refine 38 = .ok (.getfield 60, 3) := by decide +kernel
theorem dX10_refine_41 : decode cX10_refine 41 = .ok (.invokevirtual 215, 3) := by decide +kernel
theorem dX10_refine_44 : decode cX10_refine 44 = .ok (.ifCond .ne 5, 3) := by decide +kernel
theorem dX10_refine_47 : decode cX10_refine 47 = .ok (.iload_n 2, 1) := by decide +kernel
theorem dX10_refine_48 : decode cX10_refine 48 = .ok (.ireturn, 1) := by decide +kernel
theorem dX10_refine_49 : decode cX10_refine 49 = .ok (.iinc 2 1, 3) := by decide +kernel
theorem dX10_refine_52 : decode cX10_refine 52 = .ok (.goto (-20), 3) := by decide +kernel
theorem dX10_refine_55 : decode cX10_refine 55 = .ok (.iload_n 1, 1) := by decide +kernel
theorem dX10_refine_56 : decode cX10_refine 56 = .ok (.ireturn, 1) := by decide +kernel
theorem dX10_merge_0 : decode cX10_merge 0 = .ok (.iload_n 1, 1) := by decide +kernel
theorem dX10_merge_1 : decode cX10_merge 1 = .ok (.iconst 1, 1) := by decide +kernel
theorem dX10_merge_2 : decode cX10_merge 2 = .ok (.bipush 16, 2) := by decide +kernel
theorem dX10_merge_4 : decode cX10_merge 4 = .ok (.invokestatic 85, 3) := by decide +kernel
theorem dX10_merge_7 : decode cX10_merge 7 = .ok (.ifCond .ne 6, 3) := by decide +kernel
theorem dX10_merge_10 : decode cX10_merge 10 = .ok (.bipush (-2), 2) := by decide +kernel
theorem dX10_merge_12 : decode cX10_merge 12 = .ok (.ireturn, 1) := by decide +kernel
theorem dX10_merge_13 : decode cX10_merge 13 = .ok (.aload_n 0, 1) := by decide +kernel
theorem dX10_merge_14 : decode cX10_merge 14 = .ok (.invokevirtual 89, 3) := by decide +kernel
theorem dX10_merge_17 : decode cX10_merge 17 = .ok (.aload_n 0, 1) := by decide +kernel
theorem dX10_merge_18 : decode cX10_merge 18 = .ok (.getfield 60, 3) := by decide +kernel
theorem dX10_merge_21 : decode cX10_merge 21 = .ok (.iload_n 1, 1) := by decide +kernel
theorem dX10_merge_22 : decode cX10_merge 22 = .ok (.invokevirtual 219, 3) := by decide +kernel
theorem dX10_merge_25 : decode cX10_merge 25 = .ok (.aload_n 0, 1) := by decide +kernel
theorem dX10_merge_26 : decode cX10_merge 26 = .ok (.getfield 10, 3) := by decide +kernel
theorem dX10_merge_29 : decode cX10_merge 29 = .ok (.getfield 151, 3) := by decide +kernel
theorem dX10_merge_32 : decode cX10_merge 32 = .ok (.ireturn, 1) := by decide +kernel
theorem dX10_sort_0 : decode cX10_sort 0 = .ok (.iload_n 1, 1) := by decide +kernel
theorem dX10_sort_1 : decode cX10_sort 1 = .ok (.iconst 0, 1) := by decide +kernel
theorem dX10_sort_2 : decode cX10_sort 2 = .ok (.iconst 2, 1) := by decide +kernel
theorem dX10_sort_3 : decode cX10_sort 3 = .ok (.invokestatic 85, 3) := by decide +kernel
theorem dX10_sort_6 : decode cX10_sort 6 = .ok (.ifCond .ne 6, 3) := by decide +kernel
theorem dX10_sort_9 : decode cX10_sort 9 = .ok (.bipush (-2), 2) := by decide +kernel
theorem dX10_sort_11 : decode cX10_sort 11 = .ok (.ireturn, 1) := by decide +kernel
theorem dX10_sort_12 : decode cX10_sort 12 = .ok (.aload_n 0, 1) := by decide +kernel
theorem dX10_sort_13 : decode cX10_sort 13 = .ok (.getfield 19, 3) := by decide +kernel
theorem dX10_sort_16 : decode cX10_sort 16 = .ok (.aload_n 0, 1) := by decide +kernel
theorem dX10_sort_17 : decode cX10_sort 17 = .ok (.getfield 10, 3) := by decide +kernel
theorem dX10_sort_20 : decode cX10_sort 20 = .ok (.invokevirtual 170, 3) := by decide +kernel
theorem dX10_sort_23 : decode cX10_sort 23 = .ok (.aload_n 0, 1) := by decide +kernel
theorem dX10_sort_24 : decode cX10_sort 24 = .ok (.getfield 67, 3) := by decide +kernel
theorem dX10_sort_27 : decode cX10_sort 27 = .ok (.iload_n 1, 1) := by decide +kernel
theorem dX10_sort_28 : decode cX10_sort 28 = .ok (.invokevirtual 222, 3) := by decide +kernel
theorem dX10_sort_31 : decode cX10_sort 31 = .ok (.ireturn, 1) := by decide +kernel
theorem dX10_map_0 : decode cX10_map 0 = .ok (.iload_n 1, 1) := by decide +kernel
theorem dX10_map_1 : decode cX10_map 1 = .ok (.iconst 0, 1) := by decide +kernel
theorem dX10_map_2 : decode cX10_map 2 = .ok (.iconst 3, 1) := by decide +kernel
theorem dX10_map_3 : decode cX10_map 3 = .ok (.invokestatic 85, 3) := by decide +kernel
theorem dX10_map_6 : decode cX10_map 6 = .ok (.ifCond .eq 13, 3) := by decide +kernel
theorem dX10_map_9 : decode cX10_map 9 = .ok (.iload_n 2, 1) := by decide +kernel
theorem dX10_map_10 : decode cX10_map 10 = .ok (.iconst 0, 1) := by decide +kernel
theorem dX10_map_11 : decode cX10_map 11 = .ok (.bipush 64, 2) := by decide +kernel
theorem dX10_map_13 : decode cX10_map 13 = .ok (.invokestatic 85, 3) := by decide +kernel
theorem dX10_map_16 : decode cX10_map 16 = .ok (.ifCond .ne 6, 3) := by decide +kernel
theorem dX10_map_19 : decode cX10_map 19 = .ok (.bipush (-2), 2) := by decide +kernel
theorem dX10_map_21 : decode cX10_map 21 = .ok (.ireturn, 1) := by decide +kernel
theorem dX10_map_22 : decode cX10_map 22 = .ok (.aload_n 0, 1) := by decide +kernel
theorem dX10_map_23 : decode cX10_map 23 = .ok (.getfield 10, 3) := by decide +kernel
theorem dX10_map_26 : decode cX10_map 26 = .ok (.getfield 151, 3) := by decide +kernel
theorem dX10_map_29 : decode cX10_map 29 = .ok (.ifCond .ne 6, 3) := by decide +kernel
theorem dX10_map_32 : decode cX10_map 32 = .ok (.bipush (-3), 2) := by decide +kernel
theorem dX10_map_34 : decode cX10_map 34 = .ok (.ireturn, 1) := by decide +kernel
theorem dX10_map_35 : decode cX10_map 35 = .ok (.aload_n 0, 1) := by decide +kernel
theorem dX10_map_36 : decode cX10_map 36 = .ok (.getfield 19, 3) := by decide +kernel
theorem dX10_map_39 : decode cX10_map 39 = .ok (.aload_n 0, 1) := by decide +kernel
theorem dX10_map_40 : decode cX10_map 40 = .ok (.getfield 10, 3) := by decide +kernel
theorem dX10_map_43 : decode cX10_map 43 = .ok (.invokevirtual 170, 3) := by decide +kernel
theorem dX10_map_46 : decode cX10_map 46 = .ok (.iload_n 1, 1) := by decide +kernel
theorem dX10_map_47 : decode cX10_map 47 = .ok (.iconst 2, 1) := by decide +kernel
theorem dX10_map_48 : decode cX10_map 48 = .ok (.if_icmp .ge 22, 3) := by decide +kernel
theorem dX10_map_51 : decode cX10_map 51 = .ok (.aload_n 0, 1) := by decide +kernel
theorem dX10_map_52 : decode cX10_map 52 = .ok (.getfield 74, 3) := by decide +kernel
theorem dX10_map_55 : decode cX10_map 55 = .ok (.iload_n 1, 1) := by decide +kernel
theorem dX10_map_56 : decode cX10_map 56 = .ok (.ifCond .ne 7, 3) := by decide +kernel
theorem dX10_map_59 : decode cX10_map 59 = .ok (.iconst 0, 1) := by decide +kernel
theorem dX10_map_60 : decode cX10_map 60 = .ok (.goto 4, 3) := by decide +kernel
theorem dX10_map_63 : decode cX10_map 63 = .ok (.iload_n 2, 1) := by decide +kernel
theorem dX10_map_64 : decode cX10_map 64 = .ok (.invokevirtual 225, 3) := by decide +kernel
theorem dX10_map_67 : decode cX10_map 67 = .ok (.goto 11, 3) := by decide +kernel
theorem dX10_map_70 : decode cX10_map 70 = .ok (.aload_n 0, 1) := by decide +kernel
theorem dX10_map_71 : decode cX10_map 71 = .ok (.getfield 74, 3) := by decide +kernel
theorem dX10_map_74 : decode cX10_map 74 = .ok (.iload_n 1, 1) := by decide +kernel
theorem dX10_map_75 : decode cX10_map 75 = .ok (.invokevirtual 228, 3) := by decide +kernel
theorem dX10_map_78 : decode cX10_map 78 = .ok (.aload_n 0, 1) := by decide +kernel
theorem dX10_map_79 : decode cX10_map 79 = .ok (.getfield 10, 3) := by decide +kernel
theorem dX10_map_82 : decode cX10_map 82 = .ok (.iconst 1, 1) := by decide +kernel
theorem dX10_map_83 : decode cX10_map 83 = .ok (.putfield 231, 3) := by decide +kernel
theorem dX10_map_86 : decode cX10_map 86 = .ok (.aload_n 0, 1) := by decide +kernel
theorem dX10_map_87 : decode cX10_map 87 = .ok (.getfield 10, 3) := by decide +kernel
theorem dX10_map_90 : decode cX10_map 90 = .ok (.invokevirtual 235, 3) := by decide +kernel
theorem dX10_map_93 : decode cX10_map 93 = .ok (.ireturn, 1) := by decide +kernel
theorem dX10_index_0 : decode cX10_index 0 = .ok (.aload_n 0, 1) := by decide +kernel
theorem dX10_index_1 : decode cX10_index 1 = .ok (.getfield 10, 3) := by decide +kernel
theorem dX10_index_4 : decode cX10_index 4 = .ok (.iload_n 1, 1) := by decide +kernel
theorem dX10_index_5 : decode cX10_index 5 = .ok (.iload_n 2, 1) := by decide +kernel
theorem dX10_index_6 : decode cX10_index 6 = .ok (.invokevirtual 107, 3) := by decide +kernel
theorem dX10_index_9 : decode cX10_index 9 = .ok (.ifCond .ne 6, 3) := by decide +kernel
theorem dX10_index_12 : decode cX10_index 12 = .ok (.bipush (-2), 2) := by decide +kernel
theorem dX10_index_14 : decode cX10_index 14 = .ok (.ireturn, 1) := by decide +kernel
theorem dX10_index_15 : decode cX10_index 15 = .ok (.aload_n 0, 1) := by decide +kernel
theorem dX10_index_16 : decode cX10_index 16 = .ok (.getfield 10, 3) := by decide +kernel
theorem dX10_index_19 : decode cX10_index 19 = .ok (.getfield 231, 3) := by decide +kernel
theorem dX10_index_22 : decode cX10_index 22 = .ok (.ifCond .eq 23, 3) := by decide +kernel
theorem dX10_index_25 : decode cX10_index 25 = .ok (.aload_n 0, 1) := by decide +kernel
theorem dX10_index_26 : decode cX10_index 26 = .ok (.getfield 10, 3) := by decide +kernel
theorem dX10_index_29 : decode cX10_index 29 = .ok (.getfield 238, 3) := by decide +kernel
theorem dX10_index_32 : decode cX10_index 32 = .ok (.aload_n 0, 1) := by decide +kernel
theorem dX10_index_33 : decode cX10_index 33 = .ok (.getfield 10, 3) := by decide +kernel
theorem dX10_index_36 : decode cX10_index 36 = .ok (.iload_n 1, 1) := by decide +kernel
theorem dX10_index_37 : decode cX10_index 37 = .ok (.iload_n 2, 1) := by decide +kernel
theorem dX10_index_38 : decode cX10_index 38 = .ok (.invokevirtual 131, 3) := by decide +kernel
theorem dX10_index_41 : decode cX10_index 41 = .ok (.iaload, 1) := by decide +kernel
theorem dX10_index_42 : decode cX10_index 42 = .ok (.goto 5, 3) := by decide +kernel
theorem dX10_index_45 : decode cX10_index 45 = .ok (.bipush (-3), 2) := by decide +kernel
theorem dX10_index_47 : decode cX10_index 47 = .ok (.ireturn, 1) := by decide +kernel
theorem dX10_error_0 : decode cX10_error 0 = .ok (.aload_n 0, 1) := by decide +kernel
theorem dX10_error_1 : decode cX10_error 1 = .ok (.getfield 10, 3) := by decide +kernel
theorem dX10_error_4 : decode cX10_error 4 = .ok (.getfield 231, 3) := by decide +kernel
theorem dX10_error_7 : decode cX10_error 7 = .ok (.ifCond .eq 13, 3) := by decide +kernel
theorem dX10_error_10 : decode cX10_error 10 = .ok (.aload_n 0, 1) := by decide +kernel
theorem dX10_error_11 : decode cX10_error 11 = .ok (.getfield 81, 3) := by decide +kernel
theorem dX10_error_14 : decode cX10_error 14 = .ok (.invokevirtual 241, 3) := by decide +kernel
theorem dX10_error_17 : decode cX10_error 17 = .ok (.goto 5, 3) := by decide +kernel
theorem dX10_error_20 : decode cX10_error 20 = .ok (.bipush (-3), 2) := by decide +kernel
theorem dX10_error_22 : decode cX10_error 22 = .ok (.ireturn, 1) := by decide +kernel
theorem dX10_worst_0 : decode cX10_worst 0 = .ok (.aload_n 0, 1) := by decide +kernel
theorem dX10_worst_1 : decode cX10_worst 1 = .ok (.getfield 10, 3) := by decide +kernel
theorem dX10_worst_4 : decode cX10_worst 4 = .ok (.getfield 231, 3) := by decide +kernel
theorem dX10_worst_7 : decode cX10_worst 7 = .ok (.ifCond .eq 13, 3) := by decide +kernel
theorem dX10_worst_10 : decode cX10_worst 10 = .ok (.aload_n 0, 1) := by decide +kernel
theorem dX10_worst_11 : decode cX10_worst 11 = .ok (.getfield 81, 3) := by decide +kernel
theorem dX10_worst_14 : decode cX10_worst 14 = .ok (.invokevirtual 244, 3) := by decide +kernel
theorem dX10_worst_17 : decode cX10_worst 17 = .ok (.goto 5, 3) := by decide +kernel
theorem dX10_worst_20 : decode cX10_worst 20 = .ok (.bipush (-3), 2) := by decide +kernel
theorem dX10_worst_22 : decode cX10_worst 22 = .ok (.ireturn, 1) := by decide +kernel
theorem dX10_meanError_0 : decode cX10_meanError 0 = .ok (.aload_n 0, 1) := by decide +kernel
theorem dX10_meanError_1 : decode cX10_meanError 1 = .ok (.getfield 10, 3) := by decide +kernel
theorem dX10_meanError_4 : decode cX10_meanError 4 = .ok (.getfield 231, 3) := by decide +kernel
theorem dX10_meanError_7 : decode cX10_meanError 7 = .ok (.ifCond .eq 13, 3) := by decide +kernel
theorem dX10_meanError_10 : decode cX10_meanError 10 = .ok (.aload_n 0, 1) := by decide +kernel
theorem dX10_meanError_11 : decode cX10_meanError 11 = .ok (.getfield 81, 3) := by decide +kernel
theorem dX10_meanError_14 : decode cX10_meanError 14 = .ok (.invokevirtual 247, 3) := by decide +kernel
theorem dX10_meanError_17 : decode cX10_meanError 17 = .ok (.goto 5, 3) := by decide +kernel
theorem dX10_meanError_20 : decode cX10_meanError 20 = .ok (.bipush (-3), 2) := by decide +kernel
theorem dX10_meanError_22 : decode cX10_meanError 22 = .ok (.ireturn, 1) := by decide +kernel
theorem dX10_runs_0 : decode cX10_runs 0 = .ok (.aload_n 0, 1) := by decide +kernel
theorem dX10_runs_1 : decode cX10_runs 1 = .ok (.getfield 10, 3) := by decide +kernel
theorem dX10_runs_4 : decode cX10_runs 4 = .ok (.getfield 231, 3) := by decide +kernel
theorem dX10_runs_7 : decode cX10_runs 7 = .ok (.ifCond .eq 13, 3) := by decide +kernel
theorem dX10_runs_10 : decode cX10_runs 10 = .ok (.aload_n 0, 1) := by decide +kernel
theorem dX10_runs_11 : decode cX10_runs 11 = .ok (.getfield 81, 3) := by decide +kernel
theorem dX10_runs_14 : decode cX10_runs 14 = .ok (.invokevirtual 250, 3) := by decide +kernel
theorem dX10_runs_17 : decode cX10_runs 17 = .ok (.goto 5, 3) := by decide +kernel
theorem dX10_runs_20 : decode cX10_runs 20 = .ok (.bipush (-3), 2) := by decide +kernel
theorem dX10_runs_22 : decode cX10_runs 22 = .ok (.ireturn, 1) := by decide +kernel
theorem dX10_packed_0 : decode cX10_packed 0 = .ok (.iload_n 1, 1) := by decide +kernel
theorem dX10_packed_1 : decode cX10_packed 1 = .ok (.iconst (-1), 1) := by decide +kernel
theorem dX10_packed_2 : decode cX10_packed 2 = .ok (.if_icmp .ge 6, 3) := by decide +kernel
theorem dX10_packed_5 : decode cX10_packed 5 = .ok (.bipush (-2), 2) := by decide +kernel
theorem dX10_packed_7 : decode cX10_packed 7 = .ok (.ireturn, 1) := by decide +kernel
theorem dX10_packed_8 : decode cX10_packed 8 = .ok (.aload_n 0, 1) := by decide +kernel
theorem dX10_packed_9 : decode cX10_packed 9 = .ok (.getfield 10, 3) := by decide +kernel
theorem dX10_packed_12 : decode cX10_packed 12 = .ok (.getfield 231, 3) := by decide +kernel
theorem dX10_packed_15 : decode cX10_packed 15 = .ok (.ifCond .ne 6, 3) := by decide +kernel
theorem dX10_packed_18 : decode cX10_packed 18 = .ok (.bipush (-3), 2) := by decide +kernel
theorem dX10_packed_20 : decode cX10_packed 20 = .ok (.ireturn, 1) := by decide +kernel
theorem dX10_packed_21 : decode cX10_packed 21 = .ok (.iload_n 1, 1) := by decide +kernel
theorem dX10_packed_22 : decode cX10_packed 22 = .ok (.iconst (-1), 1) := by decide +kernel
theorem dX10_packed_23 : decode cX10_packed 23 = .ok (.if_icmp .ne 13, 3) := by decide +kernel
theorem dX10_packed_26 : decode cX10_packed 26 = .ok (.aload_n 0, 1) := by decide +kernel
theorem dX10_packed_27 : decode cX10_packed 27 = .ok (.getfield 81, 3) := by decide +kernel
theorem dX10_packed_30 : decode cX10_packed 30 = .ok (.invokevirtual 253, 3) := by decide +kernel
theorem dX10_packed_33 : decode cX10_packed 33 = .ok (.goto 11, 3) := by decide +kernel
theorem dX10_packed_36 : decode cX10_packed 36 = .ok (.aload_n 0, 1) := by decide +kernel
theorem dX10_packed_37 : decode cX10_packed 37 = .ok (.getfield 81, 3) := by decide +kernel
theorem dX10_packed_40 : decode cX10_packed 40 = .ok (.iload_n 1, 1) := by decide +kernel
theorem dX10_packed_41 : decode cX10_packed 41 = .ok (.invokevirtual 256, 3) := by decide +kernel
theorem dX10_packed_44 : decode cX10_packed 44 = .ok (.ireturn, 1) := by decide +kernel
theorem dX10_bestError_0 : decode cX10_bestError 0 = .ok (.aload_n 0, 1) := by decide +kernel
theorem dX10_bestError_1 : decode cX10_bestError 1 = .ok (.getfield 10, 3) := by decide +kernel
theorem dX10_bestError_4 : decode cX10_bestError 4 = .ok (.getfield 151, 3) := by decide +kernel
theorem dX10_bestError_7 : decode cX10_bestError 7 = .ok (.ifCond .ne 20, 3) := by decide +kernel
theorem dX10_bestError_10 : decode cX10_bestError 10 = .ok (.aload_n 0, 1) := by decide +kernel
theorem dX10_bestError_11 : decode cX10_bestError 11 = .ok (.getfield 10, 3) := by decide +kernel
theorem dX10_bestError_14 : decode cX10_bestError 14 = .ok (.invokevirtual 124, 3) := by decide +kernel
theorem dX10_bestError_17 : decode cX10_bestError 17 = .ok (.ifCond .ne 7, 3) := by decide +kernel
theorem dX10_bestError_20 : decode cX10_bestError 20 = .ok (.iconst 0, 1) := by decide +kernel
theorem dX10_bestError_21 : decode cX10_bestError 21 = .ok (.goto 5, 3) := by decide +kernel
theorem dX10_bestError_24 : decode cX10_bestError 24 = .ok (.bipush (-3), 2) := by decide +kernel
theorem dX10_bestError_26 : decode cX10_bestError 26 = .ok (.ireturn, 1) := by decide +kernel
theorem dX10_bestError_27 : decode cX10_bestError 27 = .ok (.aload_n 0, 1) := by decide +kernel
theorem dX10_bestError_28 : decode cX10_bestError 28 = .ok (.getfield 42, 3) := by decide +kernel
theorem dX10_bestError_31 : decode cX10_bestError 31 = .ok (.invokevirtual 182, 3) := by decide +kernel
theorem dX10_bestError_34 : decode cX10_bestError 34 = .ok (.aload_n 0, 1) := by decide +kernel
theorem dX10_bestError_35 : decode cX10_bestError 35 = .ok (.getfield 42, 3) := by decide +kernel
theorem dX10_bestError_38 : decode cX10_bestError 38 = .ok (.getfield 259, 3) := by decide +kernel
theorem dX10_bestError_41 : decode cX10_bestError 41 = .ok (.ireturn, 1) := by decide +kernel
theorem dX10_loss_0 : decode cX10_loss 0 = .ok (.aload_n 0, 1) := by decide +kernel
theorem dX10_loss_1 : decode cX10_loss 1 = .ok (.getfield 10, 3) := by decide +kernel
theorem dX10_loss_4 : decode cX10_loss 4 = .ok (.iload_n 1, 1) := by decide +kernel
theorem dX10_loss_5 : decode cX10_loss 5 = .ok (.invokevirtual 156, 3) := by decide +kernel
theorem dX10_loss_8 : decode cX10_loss 8 = .ok (.ifCond .ne 6, 3) := by decide +kernel
theorem dX10_loss_11 : decode cX10_loss 11 = .ok (.bipush (-2), 2) := by decide +kernel
theorem dX10_loss_13 : decode cX10_loss 13 = .ok (.ireturn, 1) := by decide +kernel
theorem dX10_loss_14 : decode cX10_loss 14 = .ok (.aload_n 0, 1) := by decide +kernel
theorem dX10_loss_15 : decode cX10_loss 15 = .ok (.getfield 10, 3) := by decide +kernel
theorem dX10_loss_18 : decode cX10_loss 18 = .ok (.getfield 151, 3) := by decide +kernel
theorem dX10_loss_21 : decode cX10_loss 21 = .ok (.iconst 1, 1) := by decide +kernel
theorem dX10_loss_22 : decode cX10_loss 22 = .ok (.if_icmp .ne 6, 3) := by decide +kernel
theorem dX10_loss_25 : decode cX10_loss 25 = .ok (.bipush (-3), 2) := by decide +kernel
theorem dX10_loss_27 : decode cX10_loss 27 = .ok (.ireturn, 1) := by decide +kernel
theorem dX10_loss_28 : decode cX10_loss 28 = .ok (.aload_n 0, 1) := by decide +kernel
theorem dX10_loss_29 : decode cX10_loss 29 = .ok (.getfield 42, 3) := by decide +kernel
theorem dX10_loss_32 : decode cX10_loss 32 = .ok (.invokevirtual 182, 3) := by decide +kernel
theorem dX10_loss_35 : decode cX10_loss 35 = .ok (.aload_n 0, 1) := by decide +kernel
theorem dX10_loss_36 : decode cX10_loss 36 = .ok (.getfield 42, 3) := by decide +kernel
theorem dX10_loss_39 : decode cX10_loss 39 = .ok (.getfield 262, 3) := by decide +kernel
theorem dX10_loss_42 : decode cX10_loss 42 = .ok (.iload_n 1, 1) := by decide +kernel
theorem dX10_loss_43 : decode cX10_loss 43 = .ok (.iaload, 1) := by decide +kernel
theorem dX10_loss_44 : decode cX10_loss 44 = .ok (.ireturn, 1) := by decide +kernel
theorem dX10_cheapest_0 : decode cX10_cheapest 0 = .ok (.aload_n 0, 1) := by decide +kernel
theorem dX10_cheapest_1 : decode cX10_cheapest 1 = .ok (.getfield 10, 3) := by decide +kernel
theorem dX10_cheapest_4 : decode cX10_cheapest 4 = .ok (.getfield 151, 3) := by decide +kernel
theorem dX10_cheapest_7 : decode cX10_cheapest 7 = .ok (.iconst 2, 1) := by decide +kernel
theorem dX10_cheapest_8 : decode cX10_cheapest 8 = .ok (.if_icmp .ge 6, 3) := by decide +kernel
theorem dX10_cheapest_11 : decode cX10_cheapest 11 = .ok (.bipush (-3), 2) := by decide +kernel
theorem dX10_cheapest_13 : decode cX10_cheapest 13 = .ok (.ireturn, 1) := by decide +kernel
theorem dX10_cheapest_14 : decode cX10_cheapest 14 = .ok (.aload_n 0, 1) := by decide +kernel
theorem dX10_cheapest_15 : decode cX10_cheapest 15 = .ok (.getfield 42, 3) := by decide +kernel
theorem dX10_cheapest_18 : decode cX10_cheapest 18 = .ok (.invokevirtual 182, 3) := by decide +kernel
theorem dX10_cheapest_21 : decode cX10_cheapest 21 = .ok (.aload_n 0, 1) := by decide +kernel
theorem dX10_cheapest_22 : decode cX10_cheapest 22 = .ok (.getfield 42, 3) := by decide +kernel
theorem dX10_cheapest_25 : decode cX10_cheapest 25 = .ok (.invokevirtual 265, 3) := by decide +kernel
theorem dX10_cheapest_28 : decode cX10_cheapest 28 = .ok (.ireturn, 1) := by decide +kernel
theorem dX10_gain_0 : decode cX10_gain 0 = .ok (.iload_n 1, 1) := by decide +kernel
theorem dX10_gain_1 : decode cX10_gain 1 = .ok (.invokestatic 112, 3) := by decide +kernel
theorem dX10_gain_4 : decode cX10_gain 4 = .ok (.ifCond .ne 6, 3) := by decide +kernel
theorem dX10_gain_7 : decode cX10_gain 7 = .ok (.bipush (-2), 2) := by decide +kernel
theorem dX10_gain_9 : decode cX10_gain 9 = .ok (.ireturn, 1) := by decide +kernel
theorem dX10_gain_10 : decode cX10_gain 10 = .ok (.aload_n 0, 1) := by decide +kernel
theorem dX10_gain_11 : decode cX10_gain 11 = .ok (.getfield 10, 3) := by decide +kernel
theorem dX10_gain_14 : decode cX10_gain 14 = .ok (.getfield 151, 3) := by decide +kernel
theorem dX10_gain_17 : decode cX10_gain 17 = .ok (.ifCond .ne 6, 3) := by decide +kernel
theorem dX10_gain_20 : decode cX10_gain 20 = .ok (.bipush (-3), 2) := by decide +kernel
theorem dX10_gain_22 : decode cX10_gain 22 = .ok (.ireturn, 1) := by decide +kernel
theorem dX10_gain_23 : decode cX10_gain 23 = .ok (.aload_n 0, 1) := by decide +kernel
theorem dX10_gain_24 : decode cX10_gain 24 = .ok (.getfield 42, 3) := by decide +kernel
theorem dX10_gain_27 : decode cX10_gain 27 = .ok (.invokevirtual 182, 3) := by decide +kernel
theorem dX10_gain_30 : decode cX10_gain 30 = .ok (.aload_n 0, 1) := by decide +kernel
theorem dX10_gain_31 : decode cX10_gain 31 = .ok (.getfield 42, 3) := by decide +kernel
theorem dX10_gain_34 : decode cX10_gain 34 = .ok (.iload_n 1, 1) := by decide +kernel
theorem dX10_gain_35 : decode cX10_gain 35 = .ok (.invokevirtual 268, 3) := by decide +kernel
theorem dX10_gain_38 : decode cX10_gain 38 = .ok (.ireturn, 1) := by decide +kernel
theorem dX10_bestAddition_0 : decode cX10_bestAddition 0 = .ok (.aload_n 0, 1) := by decide +kernel
theorem dX10_bestAddition_1 : decode cX10_bestAddition 1 = .ok (.getfield 10, 3) := by decide +kernel
theorem dX10_bestAddition_4 : decode cX10_bestAddition 4 = .ok (.getfield 151, 3) := by decide +kernel
theorem dX10_bestAddition_7 : decode cX10_bestAddition 7 = .ok (.ifCond .ne 6, 3) := by decide +kernel
theorem dX10_bestAddition_10 : decode cX10_bestAddition 10 = .ok (.bipush (-3), 2) := by decide +kernel
theorem dX10_bestAddition_12 : decode cX10_bestAddition 12 = .ok (.ireturn, 1) := by decide +kernel
theorem dX10_bestAddition_13 : decode cX10_bestAddition 13 = .ok (.aload_n 0, 1) := by decide +kernel
theorem dX10_bestAddition_14 : decode cX10_bestAddition 14 = .ok (.getfield 35, 3) := by decide +kernel
theorem dX10_bestAddition_17 : decode cX10_bestAddition 17 = .ok (.invokevirtual 135, 3) := by decide +kernel
theorem dX10_bestAddition_20 : decode cX10_bestAddition 20 = .ok (.aload_n 0, 1) := by decide +kernel
theorem dX10_bestAddition_21 : decode cX10_bestAddition 21 = .ok (.getfield 42, 3) := by decide +kernel
theorem dX10_bestAddition_24 : decode cX10_bestAddition 24 = .ok (.invokevirtual 182, 3) := by decide +kernel
theorem dX10_bestAddition_27 : decode cX10_bestAddition 27 = .ok (.iconst (-1), 1) := by decide +kernel
theorem dX10_bestAddition_28 : decode cX10_bestAddition 28 = .ok (.istore_n 1, 1) := by decide +kernel
theorem dX10_bestAddition_29 : decode cX10_bestAddition 29 = .ok (.iconst (-1), 1) := by decide +kernel
theorem dX10_bestAddition_30 : decode cX10_bestAddition 30 = .ok (.istore_n 2, 1) := by decide +kernel
theorem dX10_bestAddition_31 : decode cX10_bestAddition 31 = .ok (.iconst 0, 1) := by decide +kernel
theorem dX10_bestAddition_32 : decode cX10_bestAddition 32 = .ok (.istore_n 3, 1) := by decide +kernel
theorem dX10_bestAddition_33 : decode cX10_bestAddition 33 = .ok (.iload_n 3, 1) := by decide +kernel
theorem dX10_bestAddition_34 : decode cX10_bestAddition 34 = .ok (.aload_n 0, 1) := by decide +kernel
theorem dX10_bestAddition_35 : decode cX10_bestAddition 35 = .ok (.getfield 35, 3) := by decide +kernel
theorem dX10_bestAddition_38 : decode cX10_bestAddition 38 = .ok (.getfield 138, 3) := by decide +kernel
theorem dX10_bestAddition_41 : decode cX10_bestAddition 41 = .ok (.if_icmp .ge 46, 3) := by decide +kernel
theorem dX10_bestAddition_44 : decode cX10_bestAddition 44 = .ok (.aload_n 0, 1) := by decide +kernel
theorem dX10_bestAddition_45 : decode cX10_bestAddition 45 = .ok (.getfield 42, 3) := by decide +kernel
theorem dX10_bestAddition_48 : decode cX10_bestAddition 48 = .ok (.aload_n 0, 1) := by decide +kernel
theorem dX10_bestAddition_49 : decode cX10_bestAddition 49 = .ok (.getfield 35, 3) := by decide +kernel
theorem dX10_bestAddition_52 : decode cX10_bestAddition 52 = .ok (.getfield 271, 3) := by decide +kernel
theorem dX10_bestAddition_55 : decode cX10_bestAddition 55 = .ok (.iload_n 3, 1) := by decide +kernel
theorem dX10_bestAddition_56 : decode cX10_bestAddition 56 = .ok (.iaload, 1) := by decide +kernel
theorem dX10_bestAddition_57 : decode cX10_bestAddition 57 = .ok (.invokevirtual 268, 3) := by decide +kernel
theorem dX10_bestAddition_60 : decode cX10_bestAddition 60 = .ok (.istore 4, 2) := by decide +kernel
theorem dX10_bestAddition_62 : decode cX10_bestAddition 62 = .ok (.iload 4, 2) := by decide +kernel
theorem dX10_bestAddition_64 : decode cX10_bestAddition 64 = .ok (.iload_n 2, 1) := by decide +kernel
theorem dX10_bestAddition_65 : decode cX10_bestAddition 65 = .ok (.if_icmp .le 16, 3) := by decide +kernel
theorem dX10_bestAddition_68 : decode cX10_bestAddition 68 = .ok (.aload_n 0, 1) := by decide +kernel
theorem dX10_bestAddition_69 : decode cX10_bestAddition 69 = .ok (.getfield 35, 3) := by decide +kernel
theorem dX10_bestAddition_72 : decode cX10_bestAddition 72 = .ok (.getfield 271, 3) := by decide +kernel
theorem dX10_bestAddition_75 : decode cX10_bestAddition 75 = .ok (.iload_n 3, 1) := by decide +kernel
theorem dX10_bestAddition_76 : decode cX10_bestAddition 76 = .ok (.iaload, 1) := by decide +kernel
theorem dX10_bestAddition_77 : decode cX10_bestAddition 77 = .ok (.istore_n 1, 1) := by decide +kernel
theorem dX10_bestAddition_78 : decode cX10_bestAddition 78 = .ok (.iload 4, 2) := by decide +kernel
theorem dX10_bestAddition_80 : decode cX10_bestAddition 80 = .ok (.istore_n 2, 1) := by decide +kernel
theorem dX10_bestAddition_81 : decode cX10_bestAddition 81 = .ok (.iinc 3 1, 3) := by decide +kernel
theorem dX10_bestAddition_84 : decode cX10_bestAddition 84 = .ok (.goto (-51), 3) := by decide +kernel
theorem dX10_bestAddition_87 : decode cX10_bestAddition 87 = .ok (.iload_n 1, 1) := by decide +kernel
theorem dX10_bestAddition_88 : decode cX10_bestAddition 88 = .ok (.ireturn, 1) := by decide +kernel
theorem dX10_undo_0 : decode cX10_undo 0 = .ok (.aload_n 0, 1) := by decide +kernel
theorem dX10_undo_1 : decode cX10_undo 1 = .ok (.getfield 19, 3) := by decide +kernel
theorem dX10_undo_4 : decode cX10_undo 4 = .ok (.aload_n 0, 1) := by decide +kernel
theorem dX10_undo_5 : decode cX10_undo 5 = .ok (.getfield 10, 3) := by decide +kernel
theorem dX10_undo_8 : decode cX10_undo 8 = .ok (.invokevirtual 272, 3) := by decide +kernel
theorem dX10_undo_11 : decode cX10_undo 11 = .ok (.ifCond .eq 13, 3) := by decide +kernel
theorem dX10_undo_14 : decode cX10_undo 14 = .ok (.aload_n 0, 1) := by decide +kernel
theorem dX10_undo_15 : decode cX10_undo 15 = .ok (.getfield 19, 3) := by decide +kernel
theorem dX10_undo_18 : decode cX10_undo 18 = .ok (.getfield 276, 3) := by decide +kernel
theorem dX10_undo_21 : decode cX10_undo 21 = .ok (.goto 5, 3) := by decide +kernel
theorem dX10_undo_24 : decode cX10_undo 24 = .ok (.bipush (-3), 2) := by decide +kernel
theorem dX10_undo_26 : decode cX10_undo 26 = .ok (.ireturn, 1) := by decide +kernel
theorem dX10_count_0 : decode cX10_count 0 = .ok (.iload_n 1, 1) := by decide +kernel
theorem dX10_count_1 : decode cX10_count 1 = .ok (.tableswitch 151 0 9 #[55, 63, 71, 79, 95, 103, 111, 119, 135, 143], 55) := by decide +kernel
theorem dX10_count_56 : decode cX10_count 56 = .ok (.aload_n 0, 1) := by decide +kernel
theorem dX10_count_57 : decode cX10_count 57 = .ok (.getfield 10, 3) := by decide +kernel
theorem dX10_count_60 : decode cX10_count 60 = .ok (.getfield 92, 3) := by decide +kernel
theorem dX10_count_63 : decode cX10_count 63 = .ok (.ireturn, 1) := by decide +kernel
theorem dX10_count_64 : decode cX10_count 64 = .ok (.aload_n 0, 1) := by decide +kernel
theorem dX10_count_65 : decode cX10_count 65 = .ok (.getfield 10, 3) := by decide +kernel
theorem dX10_count_68 : decode cX10_count 68 = .ok (.getfield 96, 3) := by decide +kernel
theorem dX10_count_71 : decode cX10_count 71 = .ok (.ireturn, 1) := by decide +kernel
theorem dX10_count_72 : decode cX10_count 72 = .ok (.aload_n 0, 1) := by decide +kernel
theorem dX10_count_73 : decode cX10_count 73 = .ok (.getfield 10, 3) := by decide +kernel
theorem dX10_count_76 : decode cX10_count 76 = .ok (.invokevirtual 124, 3) := by decide +kernel
theorem dX10_count_79 : decode cX10_count 79 = .ok (.ireturn, 1) := by decide +kernel
theorem dX10_count_80 : decode cX10_count 80 = .ok (.aload_n 0, 1) := by decide +kernel
theorem dX10_count_81 : decode cX10_count 81 = .ok (.getfield 10, 3) := by decide +kernel
theorem dX10_count_84 : decode cX10_count 84 = .ok (.invokevirtual 103, 3) := by decide +kernel
theorem dX10_count_87 : decode cX10_count 87 = .ok (.aload_n 0, 1) := by decide +kernel
theorem dX10_count_88 : decode cX10_count 88 = .ok (.getfield 10, 3) := by decide +kernel
theorem dX10_count_91 : decode cX10_count 91 = .ok (.invokevirtual 124, 3) := by decide +kernel
theorem dX10_count_94 : decode cX10_count 94 = .ok (.isub, 1) := by decide +kernel
theorem dX10_count_95 : decode cX10_count 95 = .ok (.ireturn, 1) := by decide +kernel
theorem dX10_count_96 : decode cX10_count 96 = .ok (.aload_n 0, 1) := by decide +kernel
theorem dX10_count_97 : decode cX10_count 97 = .ok (.getfield 10, 3) := by decide +kernel
theorem dX10_count_100 : decode cX10_count 100 = .ok (.getfield 151, 3) := by decide +kernel
theorem dX10_count_103 : decode cX10_count 103 = .ok (.ireturn, 1) := by decide +kernel
theorem dX10_count_104 : decode cX10_count 104 = .ok (.aload_n 0, 1) := by decide +kernel
theorem dX10_count_105 : decode cX10_count 105 = .ok (.getfield 10, 3) := by decide +kernel
theorem dX10_count_108 : decode cX10_count 108 = .ok (.invokevirtual 206, 3) := by decide +kernel
theorem dX10_count_111 : decode cX10_count 111 = .ok (.ireturn, 1) := by decide +kernel
theorem dX10_count_112 : decode cX10_count 112 = .ok (.aload_n 0, 1) := by decide +kernel
theorem dX10_count_113 : decode cX10_count 113 = .ok (.getfield 10, 3) := by decide +kernel
theorem dX10_count_116 : decode cX10_count 116 = .ok (.getfield 176, 3) := by decide +kernel
theorem dX10_count_119 : decode cX10_count 119 = .ok (.ireturn, 1) := by decide +kernel
theorem dX10_count_120 : decode cX10_count 120 = .ok (.aload_n 0, 1) := by decide +kernel
theorem dX10_count_121 : decode cX10_count 121 = .ok (.getfield 10, 3) := by decide +kernel
theorem dX10_count_124 : decode cX10_count 124 = .ok (.getfield 231, 3) := by decide +kernel
theorem dX10_count_127 : decode cX10_count 127 = .ok (.ifCond .eq 7, 3) := by decide +kernel
theorem dX10_count_130 : decode cX10_count 130 = .ok (.iconst 1, 1) := by decide +kernel
theorem dX10_count_131 : decode cX10_count 131 = .ok (.goto 4, 3) := by decide +kernel
theorem dX10_count_134 : decode cX10_count 134 = .ok (.iconst 0, 1) := by decide +kernel
theorem dX10_count_135 : decode cX10_count 135 = .ok (.ireturn, 1) := by decide +kernel
theorem dX10_count_136 : decode cX10_count 136 = .ok (.aload_n 0, 1) := by decide +kernel
theorem dX10_count_137 : decode cX10_count 137 = .ok (.getfield 19, 3) := by decide +kernel
theorem dX10_count_140 : decode cX10_count 140 = .ok (.getfield 276, 3) := by decide +kernel
theorem dX10_count_143 : decode cX10_count 143 = .ok (.ireturn, 1) := by decide +kernel
theorem dX10_count_144 : decode cX10_count 144 = .ok (.aload_n 0, 1) := by decide +kernel
theorem dX10_count_145 : decode cX10_count 145 = .ok (.getfield 26, 3) := by decide +kernel
theorem dX10_count_148 : decode cX10_count 148 = .ok (.getfield 193, 3) := by decide +kernel
theorem dX10_count_151 : decode cX10_count 151 = .ok (.ireturn, 1) := by decide +kernel
theorem dX10_count_152 : decode cX10_count 152 = .ok (.bipush (-2), 2) := by decide +kernel
theorem dX10_count_154 : decode cX10_count 154 = .ok (.ireturn, 1) := by decide +kernel
theorem dX10_digest_0 : decode cX10_digest 0 = .ok (.ldc2_w 277, 3) := by decide +kernel
theorem dX10_digest_3 : decode cX10_digest 3 = .ok (.lstore_n 1, 1) := by decide +kernel
theorem dX10_digest_4 : decode cX10_digest 4 = .ok (.iconst 0, 1) := by decide +kernel
theorem dX10_digest_5 : decode cX10_digest 5 = .ok (.istore_n 3, 1) := by decide +kernel
theorem dX10_digest_6 : decode cX10_digest 6 = .ok (.iload_n 3, 1) := by decide +kernel
theorem dX10_digest_7 : decode cX10_digest 7 = .ok (.bipush 9, 2) := by decide +kernel
theorem dX10_digest_9 : decode cX10_digest 9 = .ok (.if_icmp .gt 19, 3) := by decide +kernel
theorem dX10_digest_12 : decode cX10_digest 12 = .ok (.lload_n 1, 1) := by decide +kernel
theorem dX10_digest_13 : decode cX10_digest 13 = .ok (.aload_n 0, 1) := by decide +kernel
theorem dX10_digest_14 : decode cX10_digest 14 = .ok (.iload_n 3, 1) := by decide +kernel
theorem dX10_digest_15 : decode cX10_digest 15 = .ok (.invokevirtual 279, 3) := by decide +kernel
theorem dX10_digest_18 : decode cX10_digest 18 = .ok (.invokestatic 282, 3) := by decide +kernel
theorem dX10_digest_21 : decode cX10_digest 21 = .ok (.lstore_n 1, 1) := by decide +kernel
theorem dX10_digest_22 : decode cX10_digest 22 = .ok (.iinc 3 1, 3) := by decide +kernel
theorem dX10_digest_25 : decode cX10_digest 25 = .ok (.goto (-19), 3) := by decide +kernel
theorem dX10_digest_28 : decode cX10_digest 28 = .ok (.lload_n 1, 1) := by decide +kernel
theorem dX10_digest_29 : decode cX10_digest 29 = .ok (.aload_n 0, 1) := by decide +kernel
theorem dX10_digest_30 : decode cX10_digest 30 = .ok (.getfield 10, 3) := by decide +kernel
theorem dX10_digest_33 : decode cX10_digest 33 = .ok (.getfield 127, 3) := by decide +kernel
theorem dX10_digest_36 : decode cX10_digest 36 = .ok (.aload_n 0, 1) := by decide +kernel
theorem dX10_digest_37 : decode cX10_digest 37 = .ok (.getfield 10, 3) := by decide +kernel
theorem dX10_digest_40 : decode cX10_digest 40 = .ok (.invokevirtual 103, 3) := by decide +kernel
theorem dX10_digest_43 : decode cX10_digest 43 = .ok (.invokestatic 286, 3) := by decide +kernel
theorem dX10_digest_46 : decode cX10_digest 46 = .ok (.lstore_n 1, 1) := by decide +kernel
theorem dX10_digest_47 : decode cX10_digest 47 = .ok (.aload_n 0, 1) := by decide +kernel
theorem dX10_digest_48 : decode cX10_digest 48 = .ok (.lload_n 1, 1) := by decide +kernel
theorem dX10_digest_49 : decode cX10_digest 49 = .ok (.invokevirtual 290, 3) := by decide +kernel
theorem dX10_digest_52 : decode cX10_digest 52 = .ok (.lstore_n 1, 1) := by decide +kernel
theorem dX10_digest_53 : decode cX10_digest 53 = .ok (.aload_n 0, 1) := by decide +kernel
theorem dX10_digest_54 : decode cX10_digest 54 = .ok (.getfield 10, 3) := by decide +kernel
theorem dX10_digest_57 : decode cX10_digest 57 = .ok (.getfield 231, 3) := by decide +kernel
theorem dX10_digest_60 : decode cX10_digest 60 = .ok (.ifCond .eq 70, 3) := by decide +kernel
theorem dX10_digest_63 : decode cX10_digest 63 = .ok (.lload_n 1, 1) := by decide +kernel
theorem dX10_digest_64 : decode cX10_digest 64 = .ok (.aload_n 0, 1) := by decide +kernel
theorem dX10_digest_65 : decode cX10_digest 65 = .ok (.getfield 10, 3) := by decide +kernel
theorem dX10_digest_68 : decode cX10_digest 68 = .ok (.getfield 238, 3) := by decide +kernel
theorem dX10_digest_71 : decode cX10_digest 71 = .ok (.aload_n 0, 1) := by decide +kernel
theorem dX10_digest_72 : decode cX10_digest 72 = .ok (.getfield 10, 3) := by decide +kernel
theorem dX10_digest_75 : decode cX10_digest 75 = .ok (.invokevirtual 103, 3) := by decide +kernel
theorem dX10_digest_78 : decode cX10_digest 78 = .ok (.invokestatic 286, 3) := by decide +kernel
theorem dX10_digest_81 : decode cX10_digest 81 = .ok (.lstore_n 1, 1) := by decide +kernel
theorem dX10_digest_82 : decode cX10_digest 82 = .ok (.lload_n 1, 1) := by decide +kernel
theorem dX10_digest_83 : decode cX10_digest 83 = .ok (.aload_n 0, 1) := by decide +kernel
theorem dX10_digest_84 : decode cX10_digest 84 = .ok (.getfield 81, 3) := by decide +kernel
theorem dX10_digest_87 : decode cX10_digest 87 = .ok (.invokevirtual 241, 3) := by decide +kernel
theorem dX10_digest_90 : decode cX10_digest 90 = .ok (.invokestatic 282, 3) := by decide +kernel
theorem dX10_digest_93 : decode cX10_digest 93 = .ok (.lstore_n 1, 1) := by decide +kernel
theorem dX10_digest_94 : decode cX10_digest 94 = .ok (.lload_n 1, 1) := by decide +kernel
theorem dX10_digest_95 : decode cX10_digest 95 = .ok (.aload_n 0, 1) := by decide +kernel
theorem dX10_digest_96 : decode cX10_digest 96 = .ok (.getfield 81, 3) := by decide +kernel
theorem dX10_digest_99 : decode cX10_digest 99 = .ok (.invokevirtual 244, 3) := by decide +kernel
theorem dX10_digest_102 : decode cX10_digest 102 = .ok (.invokestatic 282, 3) := by decide +kernel
theorem dX10_digest_105 : decode cX10_digest 105 = .ok (.lstore_n 1, 1) := by decide +kernel
theorem dX10_digest_106 : decode cX10_digest 106 = .ok (.lload_n 1, 1) := by decide +kernel
theorem dX10_digest_107 : decode cX10_digest 107 = .ok (.aload_n 0, 1) := by decide +kernel
theorem dX10_digest_108 : decode cX10_digest 108 = .ok (.getfield 81, 3) := by decide +kernel
theorem dX10_digest_111 : decode cX10_digest 111 = .ok (.invokevirtual 247, 3) := by decide +kernel
theorem dX10_digest_114 : decode cX10_digest 114 = .ok (.invokestatic 282, 3) := by decide +kernel
theorem dX10_digest_117 : decode cX10_digest 117 = .ok (.lstore_n 1, 1) := by decide +kernel
theorem dX10_digest_118 : decode cX10_digest 118 = .ok (.lload_n 1, 1) := by decide +kernel
theorem dX10_digest_119 : decode cX10_digest 119 = .ok (.aload_n 0, 1) := by decide +kernel
theorem dX10_digest_120 : decode cX10_digest 120 = .ok (.getfield 81, 3) := by decide +kernel
theorem dX10_digest_123 : decode cX10_digest 123 = .ok (.invokevirtual 250, 3) := by decide +kernel
theorem dX10_digest_126 : decode cX10_digest 126 = .ok (.invokestatic 282, 3) := by decide +kernel
theorem dX10_digest_129 : decode cX10_digest 129 = .ok (.lstore_n 1, 1) := by decide +kernel
theorem dX10_digest_130 : decode cX10_digest 130 = .ok (.lload_n 1, 1) := by decide +kernel
theorem dX10_digest_131 : decode cX10_digest 131 = .ok (.aload_n 0, 1) := by decide +kernel
theorem dX10_digest_132 : decode cX10_digest 132 = .ok (.getfield 26, 3) := by decide +kernel
theorem dX10_digest_135 : decode cX10_digest 135 = .ok (.getfield 294, 3) := by decide +kernel
theorem dX10_digest_138 : decode cX10_digest 138 = .ok (.aload_n 0, 1) := by decide +kernel
theorem dX10_digest_139 : decode cX10_digest 139 = .ok (.getfield 26, 3) := by decide +kernel
theorem dX10_digest_142 : decode cX10_digest 142 = .ok (.getfield 193, 3) := by decide +kernel
theorem dX10_digest_145 : decode cX10_digest 145 = .ok (.invokestatic 286, 3) := by decide +kernel
theorem dX10_digest_148 : decode cX10_digest 148 = .ok (.lreturn, 1) := by decide +kernel
theorem dX10_mixEntries_0 : decode cX10_mixEntries 0 = .ok (.lload_n 1, 1) := by decide +kernel
theorem dX10_mixEntries_1 : decode cX10_mixEntries 1 = .ok (.lstore_n 3, 1) := by decide +kernel
theorem dX10_mixEntries_2 : decode cX10_mixEntries 2 = .ok (.aload_n 0, 1) := by decide +kernel
theorem dX10_mixEntries_3 : decode cX10_mixEntries 3 = .ok (.getfield 42, 3) := by decide +kernel
theorem dX10_mixEntries_6 : decode cX10_mixEntries 6 = .ok (.invokevirtual 182, 3) := by decide +kernel
theorem dX10_mixEntries_9 : decode cX10_mixEntries 9 = .ok (.iconst 0, 1) := by decide +kernel
theorem dX10_mixEntries_10 : decode cX10_mixEntries 10 = .ok (.istore 5, 2) := by decide +kernel
theorem dX10_mixEntries_12 : decode cX10_mixEntries 12 = .ok (.iload 5, 2) := by decide +kernel
theorem dX10_mixEntries_14 : decode cX10_mixEntries 14 = .ok (.aload_n 0, 1) := by decide +kernel
theorem dX10_mixEntries_15 : decode cX10_mixEntries 15 = .ok (.getfield 10, 3) := by decide +kernel
theorem dX10_mixEntries_18 : decode cX10_mixEntries 18 = .ok (.getfield 151, 3) := by decide +kernel
theorem dX10_mixEntries_21 : decode cX10_mixEntries 21 = .ok (.if_icmp .ge 76, 3) := by decide +kernel
theorem dX10_mixEntries_24 : decode cX10_mixEntries 24 = .ok (.lload_n 3, 1) := by decide +kernel
theorem dX10_mixEntries_25 : decode cX10_mixEntries 25 = .ok (.aload_n 0, 1) := by decide +kernel
theorem dX10_mixEntries_26 : decode cX10_mixEntries 26 = .ok (.getfield 10, 3) := by decide +kernel
theorem dX10_mixEntries_29 : decode cX10_mixEntries 29 = .ok (.getfield 163, 3) := by decide +kernel
theorem dX10_mixEntries_32 : decode cX10_mixEntries 32 = .ok (.iload 5, 2) := by decide +kernel
theorem dX10_mixEntries_34 : decode cX10_mixEntries 34 = .ok (.iaload, 1) := by decide +kernel
theorem dX10_mixEntries_35 : decode cX10_mixEntries 35 = .ok (.invokestatic 282, 3) := by decide +kernel
theorem dX10_mixEntries_38 : decode cX10_mixEntries 38 = .ok (.lstore_n 3, 1) := by decide +kernel
theorem dX10_mixEntries_39 : decode cX10_mixEntries 39 = .ok (.lload_n 3, 1) := by decide +kernel
theorem dX10_mixEntries_40 : decode cX10_mixEntries 40 = .ok (.aload_n 0, 1) := by decide +kernel
theorem dX10_mixEntries_41 : decode cX10_mixEntries 41 = .ok (.getfield 10, 3) := by decide +kernel
theorem dX10_mixEntries_44 : decode cX10_mixEntries 44 = .ok (.getfield 159, 3) := by decide +kernel
theorem dX10_mixEntries_47 : decode cX10_mixEntries 47 = .ok (.iload 5, 2) := by decide +kernel
theorem dX10_mixEntries_49 : decode cX10_mixEntries 49 = .ok (.baload, 1) := by decide +kernel
theorem dX10_mixEntries_50 : decode cX10_mixEntries 50 = .ok (.ifCond .eq 7, 3) := by decide +kernel
theorem dX10_mixEntries_53 : decode cX10_mixEntries 53 = .ok (.iconst 1, 1) := by decide +kernel
theorem dX10_mixEntries_54 : decode cX10_mixEntries 54 = .ok (.goto 4, 3) := by decide +kernel
theorem dX10_mixEntries_57 : decode cX10_mixEntries 57 = .ok (.iconst 0, 1) := by decide +kernel
theorem dX10_mixEntries_58 : decode cX10_mixEntries 58 = .ok (.invokestatic 282, 3) := by decide +kernel
theorem dX10_mixEntries_61 : decode cX10_mixEntries 61 = .ok (.lstore_n 3, 1) := by decide +kernel
theorem dX10_mixEntries_62 : decode cX10_mixEntries 62 = .ok (.lload_n 3, 1) := by decide +kernel
theorem dX10_mixEntries_63 : decode cX10_mixEntries 63 = .ok (.aload_n 0, 1) := by decide +kernel
theorem dX10_mixEntries_64 : decode cX10_mixEntries 64 = .ok (.getfield 42, 3) := by decide +kernel
theorem dX10_mixEntries_67 : decode cX10_mixEntries 67 = .ok (.getfield 185, 3) := by decide +kernel
theorem dX10_mixEntries_70 : decode cX10_mixEntries 70 = .ok (.iload 5, 2) := by decide +kernel
theorem dX10_mixEntries_72 : decode cX10_mixEntries 72 = .ok (.iaload, 1) := by decide +kernel
theorem dX10_mixEntries_73 : decode cX10_mixEntries 73 = .ok (.invokestatic 282, 3) := by decide +kernel
theorem dX10_mixEntries_76 : decode cX10_mixEntries 76 = .ok (.lstore_n 3, 1) := by decide +kernel
theorem dX10_mixEntries_77 : decode cX10_mixEntries 77 = .ok (.lload_n 3, 1) := by decide +kernel
theorem dX10_mixEntries_78 : decode cX10_mixEntries 78 = .ok (.aload_n 0, 1) := by decide +kernel
theorem dX10_mixEntries_79 : decode cX10_mixEntries 79 = .ok (.getfield 10, 3) := by decide +kernel
theorem dX10_mixEntries_82 : decode cX10_mixEntries 82 = .ok (.iload 5, 2) := by decide +kernel
theorem dX10_mixEntries_84 : decode cX10_mixEntries 84 = .ok (.invokevirtual 179, 3) := by decide +kernel
theorem dX10_mixEntries_87 : decode cX10_mixEntries 87 = .ok (.invokestatic 282, 3) := by decide +kernel
theorem dX10_mixEntries_90 : decode cX10_mixEntries 90 = .ok (.lstore_n 3, 1) := by decide +kernel
theorem dX10_mixEntries_91 : decode cX10_mixEntries 91 = .ok (.iinc 5 1, 3) := by decide +kernel
theorem dX10_mixEntries_94 : decode cX10_mixEntries 94 = .ok (.goto (-82), 3) := by decide +kernel
theorem dX10_mixEntries_97 : decode cX10_mixEntries 97 = .ok (.lload_n 3, 1) := by decide +kernel
theorem dX10_mixEntries_98 : decode cX10_mixEntries 98 = .ok (.lreturn, 1) := by decide +kernel
theorem dX10_mixAll_0 : decode cX10_mixAll 0 = .ok (.lload_n 0, 1) := by decide +kernel
theorem dX10_mixAll_1 : decode cX10_mixAll 1 = .ok (.lstore 4, 2) := by decide +kernel
theorem dX10_mixAll_3 : decode cX10_mixAll 3 = .ok (.iconst 0, 1) := by decide +kernel
theorem dX10_mixAll_4 : decode cX10_mixAll 4 = .ok (.istore 6, 2) := by decide +kernel
theorem dX10_mixAll_6 : decode cX10_mixAll 6 = .ok (.iload 6, 2) := by decide +kernel
theorem dX10_mixAll_8 : decode cX10_mixAll 8 = .ok (.iload_n 3, 1) := by decide +kernel
theorem dX10_mixAll_9 : decode cX10_mixAll 9 = .ok (.if_icmp .ge 27, 3) := by decide +kernel
theorem dX10_mixAll_12 : decode cX10_mixAll 12 = .ok (.iload 6, 2) := by decide +kernel
theorem dX10_mixAll_14 : decode cX10_mixAll 14 = .ok (.aload_n 2, 1) := by decide +kernel
theorem dX10_mixAll_15 : decode cX10_mixAll 15 = .ok (.arraylength, 1) := by decide +kernel
theorem dX10_mixAll_16 : decode cX10_mixAll 16 = .ok (.if_icmp .ge 20, 3) := by decide +kernel
theorem dX10_mixAll_19 : decode cX10_mixAll 19 = .ok (.lload 4, 2) := by decide +kernel
theorem dX10_mixAll_21 : decode cX10_mixAll 21 = .ok (.aload_n 2, 1) := by decide +kernel
theorem dX10_mixAll_22 : decode cX10_mixAll 22 = .ok (.iload 6, 2) := by decide +kernel
theorem dX10_mixAll_24 : decode cX10_mixAll 24 = .ok (.iaload, 1) := by decide +kernel
theorem dX10_mixAll_25 : decode cX10_mixAll 25 = .ok (.invokestatic 282, 3) := by decide +kernel
theorem dX10_mixAll_28 : decode cX10_mixAll 28 = .ok (.lstore 4, 2) := by decide +kernel
theorem dX10_mixAll_30 : decode cX10_mixAll 30 = .ok (.iinc 6 1, 3) := by decide +kernel
theorem dX10_mixAll_33 : decode cX10_mixAll 33 = .ok (.goto (-27), 3) := by decide +kernel
theorem dX10_mixAll_36 : decode cX10_mixAll 36 = .ok (.lload 4, 2) := by decide +kernel
theorem dX10_mixAll_38 : decode cX10_mixAll 38 = .ok (.lreturn, 1) := by decide +kernel
theorem dX10_mix_0 : decode cX10_mix 0 = .ok (.ldc2_w 297, 3) := by decide +kernel
theorem dX10_mix_3 : decode cX10_mix 3 = .ok (.lload_n 0, 1) := by decide +kernel
theorem dX10_mix_4 : decode cX10_mix 4 = .ok (.lmul, 1) := by decide +kernel
theorem dX10_mix_5 : decode cX10_mix 5 = .ok (.iload_n 2, 1) := by decide +kernel
theorem dX10_mix_6 : decode cX10_mix 6 = .ok (.i2l, 1) := by decide +kernel
theorem dX10_mix_7 : decode cX10_mix 7 = .ok (.ladd, 1) := by decide +kernel
theorem dX10_mix_8 : decode cX10_mix 8 = .ok (.lreturn, 1) := by decide +kernel
theorem dX10_beginRemake_0 : decode cX10_beginRemake 0 = .ok (.aload_n 0, 1) := by decide +kernel
theorem dX10_beginRemake_1 : decode cX10_beginRemake 1 = .ok (.getfield 19, 3) := by decide +kernel
theorem dX10_beginRemake_4 : decode cX10_beginRemake 4 = .ok (.aload_n 0, 1) := by decide +kernel
theorem dX10_beginRemake_5 : decode cX10_beginRemake 5 = .ok (.getfield 10, 3) := by decide +kernel
theorem dX10_beginRemake_8 : decode cX10_beginRemake 8 = .ok (.invokevirtual 170, 3) := by decide +kernel
theorem dX10_beginRemake_11 : decode cX10_beginRemake 11 = .ok (.aload_n 0, 1) := by decide +kernel
theorem dX10_beginRemake_12 : decode cX10_beginRemake 12 = .ok (.getfield 10, 3) := by decide +kernel
theorem dX10_beginRemake_15 : decode cX10_beginRemake 15 = .ok (.iconst 0, 1) := by decide +kernel
theorem dX10_beginRemake_16 : decode cX10_beginRemake 16 = .ok (.putfield 231, 3) := by decide +kernel
theorem dX10_beginRemake_19 : decode cX10_beginRemake 19 = .ok (.return_, 1) := by decide +kernel
theorem dX10_isWithin_0 : decode cX10_isWithin 0 = .ok (.iload_n 0, 1) := by decide +kernel
theorem dX10_isWithin_1 : decode cX10_isWithin 1 = .ok (.iload_n 1, 1) := by decide +kernel
theorem dX10_isWithin_2 : decode cX10_isWithin 2 = .ok (.if_icmp .lt 12, 3) := by decide +kernel
theorem dX10_isWithin_5 : decode cX10_isWithin 5 = .ok (.iload_n 0, 1) := by decide +kernel
theorem dX10_isWithin_6 : decode cX10_isWithin 6 = .ok (.iload_n 2, 1) := by decide +kernel
theorem dX10_isWithin_7 : decode cX10_isWithin 7 = .ok (.if_icmp .gt 7, 3) := by decide +kernel
theorem dX10_isWithin_10 : decode cX10_isWithin 10 = .ok (.iconst 1, 1) := by decide +kernel
theorem dX10_isWithin_11 : decode cX10_isWithin 11 = .ok (.goto 4, 3) := by decide +kernel
theorem dX10_isWithin_14 : decode cX10_isWithin 14 = .ok (.iconst 0, 1) := by decide +kernel
theorem dX10_isWithin_15 : decode cX10_isWithin 15 = .ok (.ireturn, 1) := by decide +kernel
theorem dX10_isColor_0 : decode cX10_isColor 0 = .ok (.iload_n 0, 1) := by decide +kernel
theorem dX10_isColor_1 : decode cX10_isColor 1 = .ok (.iconst 0, 1) := by decide +kernel
theorem dX10_isColor_2 : decode cX10_isColor 2 = .ok (.ldc 111, 2) := by decide +kernel
theorem dX10_isColor_4 : decode cX10_isColor 4 = .ok (.invokestatic 85, 3) := by decide +kernel
theorem dX10_isColor_7 : decode cX10_isColor 7 = .ok (.ireturn, 1) := by decide +kernel
theorem dX10_channelOf_0 : decode cX10_channelOf 0 = .ok (.iload_n 0, 1) := by decide +kernel
theorem dX10_channelOf_1 : decode cX10_channelOf 1 = .ok (.bipush 16, 2) := by decide +kernel
theorem dX10_channelOf_3 : decode cX10_channelOf 3 = .ok (.bipush 8, 2) := by decide +kernel
theorem dX10_channelOf_5 : decode cX10_channelOf 5 = .ok (.iload_n 1, 1) := by decide +kernel
theorem dX10_channelOf_6 : decode cX10_channelOf 6 = .ok (.imul, 1) := by decide +kernel
theorem dX10_channelOf_7 : decode cX10_channelOf 7 = .ok (.isub, 1) := by decide +kernel
theorem dX10_channelOf_8 : decode cX10_channelOf 8 = .ok (.ishr, 1) := by decide +kernel
theorem dX10_channelOf_9 : decode cX10_channelOf 9 = .ok (.sipush 255, 3) := by decide +kernel
theorem dX10_channelOf_12 : decode cX10_channelOf 12 = .ok (.iand, 1) := by decide +kernel
theorem dX10_channelOf_13 : decode cX10_channelOf 13 = .ok (.ireturn, 1) := by decide +kernel
theorem dX10_colorOf_0 : decode cX10_colorOf 0 = .ok (.ldc_w 299, 3) := by decide +kernel
theorem dX10_colorOf_3 : decode cX10_colorOf 3 = .ok (.iload_n 0, 1) := by decide +kernel
theorem dX10_colorOf_4 : decode cX10_colorOf 4 = .ok (.imul, 1) := by decide +kernel
theorem dX10_colorOf_5 : decode cX10_colorOf 5 = .ok (.sipush 256, 3) := by decide +kernel
theorem dX10_colorOf_8 : decode cX10_colorOf 8 = .ok (.iload_n 1, 1) := by decide +kernel
theorem dX10_colorOf_9 : decode cX10_colorOf 9 = .ok (.imul, 1) := by decide +kernel
theorem dX10_colorOf_10 : decode cX10_colorOf 10 = .ok (.iadd, 1) := by decide +kernel
theorem dX10_colorOf_11 : decode cX10_colorOf 11 = .ok (.iload_n 2, 1) := by decide +kernel
theorem dX10_colorOf_12 : decode cX10_colorOf 12 = .ok (.iadd, 1) := by decide +kernel
theorem dX10_colorOf_13 : decode cX10_colorOf 13 = .ok (.ireturn, 1) := by decide +kernel
theorem dX10_limited_0 : decode cX10_limited 0 = .ok (.iconst 0, 1) := by decide +kernel
theorem dX10_limited_1 : decode cX10_limited 1 = .ok (.sipush 255, 3) := by decide +kernel
theorem dX10_limited_4 : decode cX10_limited 4 = .ok (.iload_n 0, 1) := by decide +kernel
theorem dX10_limited_5 : decode cX10_limited 5 = .ok (.invokestatic 300, 3) := by decide +kernel
theorem dX10_limited_8 : decode cX10_limited 8 = .ok (.invokestatic 305, 3) := by decide +kernel
theorem dX10_limited_11 : decode cX10_limited 11 = .ok (.ireturn, 1) := by decide +kernel
theorem dX10_blend_0 : decode cX10_blend 0 = .ok (.iload_n 3, 1) := by decide +kernel
theorem dX10_blend_1 : decode cX10_blend 1 = .ok (.iconst 1, 1) := by decide +kernel
theorem dX10_blend_2 : decode cX10_blend 2 = .ok (.if_icmp .gt 5, 3) := by decide +kernel
theorem dX10_blend_5 : decode cX10_blend 5 = .ok (.iload_n 0, 1) := by decide +kernel
theorem dX10_blend_6 : decode cX10_blend 6 = .ok (.ireturn, 1) := by decide +kernel
theorem dX10_blend_7 : decode cX10_blend 7 = .ok (.iconst 0, 1) := by decide +kernel
theorem dX10_blend_8 : decode cX10_blend 8 = .ok (.istore 4, 2) := by decide +kernel
theorem dX10_blend_10 : decode cX10_blend 10 = .ok (.iconst 0, 1) := by decide +kernel
theorem dX10_blend_11 : decode cX10_blend 11 = .ok (.istore 5, 2) := by decide +kernel
theorem dX10_blend_13 : decode cX10_blend 13 = .ok (.iload 5, 2) := by decide +kernel
theorem dX10_blend_15 : decode cX10_blend 15 = .ok (.iconst 3, 1) := by decide +kernel
theorem dX10_blend_16 : decode cX10_blend 16 = .ok (.if_icmp .ge 44, 3) := by decide +kernel
theorem dX10_blend_19 : decode cX10_blend 19 = .ok (.iload_n 0, 1) := by decide +kernel
theorem dX10_blend_20 : decode cX10_blend 20 = .ok (.iload 5, 2) := by decide +kernel
theorem dX10_blend_22 : decode cX10_blend 22 = .ok (.invokestatic 308, 3) := by decide +kernel
theorem dX10_blend_25 : decode cX10_blend 25 = .ok (.istore 6, 2) := by decide +kernel
theorem dX10_blend_27 : decode cX10_blend 27 = .ok (.sipush 256, 3) := by decide +kernel
theorem dX10_blend_30 : decode cX10_blend 30 = .ok (.iload 4, 2) := by decide +kernel
theorem dX10_blend_32 : decode cX10_blend 32 = .ok (.imul, 1) := by decide +kernel
theorem dX10_blend_33 : decode cX10_blend 33 = .ok (.iload 6, 2) := by decide +kernel
theorem dX10_blend_35 : decode cX10_blend 35 = .ok (.iadd, 1) := by decide +kernel
theorem dX10_blend_36 : decode cX10_blend 36 = .ok (.iload_n 1, 1) := by decide +kernel
theorem dX10_blend_37 : decode cX10_blend 37 = .ok (.iload 5, 2) := by decide +kernel
theorem dX10_blend_39 : decode cX10_blend 39 = .ok (.invokestatic 308, 3) := by decide +kernel
theorem dX10_blend_42 : decode cX10_blend 42 = .ok (.iload 6, 2) := by decide +kernel
theorem dX10_blend_44 : decode cX10_blend 44 = .ok (.isub, 1) := by decide +kernel
theorem dX10_blend_45 : decode cX10_blend 45 = .ok (.iload_n 2, 1) := by decide +kernel
theorem dX10_blend_46 : decode cX10_blend 46 = .ok (.imul, 1) := by decide +kernel
theorem dX10_blend_47 : decode cX10_blend 47 = .ok (.iload_n 3, 1) := by decide +kernel
theorem dX10_blend_48 : decode cX10_blend 48 = .ok (.iconst 1, 1) := by decide +kernel
theorem dX10_blend_49 : decode cX10_blend 49 = .ok (.isub, 1) := by decide +kernel
theorem dX10_blend_50 : decode cX10_blend 50 = .ok (.idiv, 1) := by decide +kernel
theorem dX10_blend_51 : decode cX10_blend 51 = .ok (.iadd, 1) := by decide +kernel
theorem dX10_blend_52 : decode cX10_blend 52 = .ok (.istore 4, 2) := by decide +kernel
theorem dX10_blend_54 : decode cX10_blend 54 = .ok (.iinc 5 1, 3) := by decide +kernel
theorem dX10_blend_57 : decode cX10_blend 57 = .ok (.goto (-44), 3) := by decide +kernel
theorem dX10_blend_60 : decode cX10_blend 60 = .ok (.iload 4, 2) := by decide +kernel
theorem dX10_blend_62 : decode cX10_blend 62 = .ok (.ireturn, 1) := by decide +kernel
theorem dX10_mean_0 : decode cX10_mean 0 = .ok (.iload_n 1, 1) := by decide +kernel
theorem dX10_mean_1 : decode cX10_mean 1 = .ok (.ifCond .le 15, 3) := by decide +kernel
theorem dX10_mean_4 : decode cX10_mean 4 = .ok (.iconst 2, 1) := by decide +kernel
theorem dX10_mean_5 : decode cX10_mean 5 = .ok (.iload_n 0, 1) := by decide +kernel
theorem dX10_mean_6 : decode cX10_mean 6 = .ok (.imul, 1) := by decide +kernel
theorem dX10_mean_7 : decode cX10_mean 7 = .ok (.iload_n 1, 1) := by decide +kernel
theorem dX10_mean_8 : decode cX10_mean 8 = .ok (.iadd, 1) := by decide +kernel
theorem dX10_mean_9 : decode cX10_mean 9 = .ok (.iconst 2, 1) := by decide +kernel
theorem dX10_mean_10 : decode cX10_mean 10 = .ok (.iload_n 1, 1) := by decide +kernel
theorem dX10_mean_11 : decode cX10_mean 11 = .ok (.imul, 1) := by decide +kernel
theorem dX10_mean_12 : decode cX10_mean 12 = .ok (.idiv, 1) := by decide +kernel
theorem dX10_mean_13 : decode cX10_mean 13 = .ok (.goto 4, 3) := by decide +kernel
theorem dX10_mean_16 : decode cX10_mean 16 = .ok (.iconst 0, 1) := by decide +kernel
theorem dX10_mean_17 : decode cX10_mean 17 = .ok (.ireturn, 1) := by decide +kernel
theorem dX10_sortKeys_0 : decode cX10_sortKeys 0 = .ok (.iload_n 1, 1) := by decide +kernel
theorem dX10_sortKeys_1 : decode cX10_sortKeys 1 = .ok (.ifCond .lt 9, 3) := by decide +kernel
theorem dX10_sortKeys_4 : decode cX10_sortKeys 4 = .ok (.iload_n 2, 1) := by decide +kernel
theorem dX10_sortKeys_5 : decode cX10_sortKeys 5 = .ok (.aload_n 0, 1) := by decide +kernel
theorem dX10_sortKeys_6 : decode cX10_sortKeys 6 = .ok (.arraylength, 1) := by decide +kernel
theorem dX10_sortKeys_7 : decode cX10_sortKeys 7 = .ok (.if_icmp .le 4, 3) := by decide +kernel
theorem dX10_sortKeys_10 : decode cX10_sortKeys 10 = .ok (.return_, 1) := by decide +kernel
theorem dX10_sortKeys_11 : decode cX10_sortKeys 11 = .ok (.bipush 121, 2) := by decide +kernel
theorem dX10_sortKeys_13 : decode cX10_sortKeys 13 = .ok (.istore_n 3, 1) := by decide +kernel
theorem dX10_sortKeys_14 : decode cX10_sortKeys 14 = .ok (.iload_n 3, 1) := by decide +kernel
theorem dX10_sortKeys_15 : decode cX10_sortKeys 15 = .ok (.ifCond .le 82, 3) := by decide +kernel
theorem dX10_sortKeys_18 : decode cX10_sortKeys 18 = .ok (.iload_n 1, 1) := by decide +kernel
theorem dX10_sortKeys_19 : decode cX10_sortKeys 19 = .ok (.iload_n 3, 1) := by decide +kernel
theorem dX10_sortKeys_20 : decode cX10_sortKeys 20 = .ok (.iadd, 1) := by decide +kernel
theorem dX10_sortKeys_21 : decode cX10_sortKeys 21 = .ok (.istore 4, 2) := by decide +kernel
theorem dX10_sortKeys_23 : decode cX10_sortKeys 23 = .ok (.iload 4, 2) := by decide +kernel
theorem dX10_sortKeys_25 : decode cX10_sortKeys 25 = .ok (.iload_n 2, 1) := by decide +kernel
theorem dX10_sortKeys_26 : decode cX10_sortKeys 26 = .ok (.if_icmp .ge 64, 3) := by decide +kernel
theorem dX10_sortKeys_29 : decode cX10_sortKeys 29 = .ok (.aload_n 0, 1) := by decide +kernel
theorem dX10_sortKeys_30 : decode cX10_sortKeys 30 = .ok (.iload 4, 2) := by decide +kernel
theorem dX10_sortKeys_32 : decode cX10_sortKeys 32 = .ok (.laload, 1) := by decide +kernel
theorem dX10_sortKeys_33 : decode cX10_sortKeys 33 = .ok (.lstore 5, 2) := by decide +kernel
theorem dX10_sortKeys_35 : decode cX10_sortKeys 35 = .ok (.iload 4, 2) := by decide +kernel
theorem dX10_sortKeys_37 : decode cX10_sortKeys 37 = .ok (.istore 7, 2) := by decide +kernel
theorem dX10_sortKeys_39 : decode cX10_sortKeys 39 = .ok (.iload 7, 2) := by decide +kernel
theorem dX10_sortKeys_41 : decode cX10_sortKeys 41 = .ok (.iload_n 3, 1) := by decide +kernel
theorem dX10_sortKeys_42 : decode cX10_sortKeys 42 = .ok (.isub, 1) := by decide +kernel
theorem dX10_sortKeys_43 : decode cX10_sortKeys 43 = .ok (.iload_n 1, 1) := by decide +kernel
theorem dX10_sortKeys_44 : decode cX10_sortKeys 44 = .ok (.if_icmp .lt 34, 3) := by decide +kernel
theorem dX10_sortKeys_47 : decode cX10_sortKeys 47 = .ok (.aload_n 0, 1) := by decide +kernel
theorem dX10_sortKeys_48 : decode cX10_sortKeys 48 = .ok (.iload 7, 2) := by decide +kernel
theorem dX10_sortKeys_50 : decode cX10_sortKeys 50 = .ok (.iload_n 3, 1) := by decide +kernel
theorem dX10_sortKeys_51 : decode cX10_sortKeys 51 = .ok (.isub, 1) := by decide +kernel
theorem dX10_sortKeys_52 : decode cX10_sortKeys 52 = .ok (.laload, 1) := by decide +kernel
theorem dX10_sortKeys_53 : decode cX10_sortKeys 53 = .ok (.lload 5, 2) := by decide +kernel
theorem dX10_sortKeys_55 : decode cX10_sortKeys 55 = .ok (.lcmp, 1) := by decide +kernel
theorem dX10_sortKeys_56 : decode cX10_sortKeys 56 = .ok (.ifCond .le 22, 3) := by decide +kernel
theorem dX10_sortKeys_59 : decode cX10_sortKeys 59 = .ok (.aload_n 0, 1) := by decide +kernel
theorem dX10_sortKeys_60 : decode cX10_sortKeys 60 = .ok (.iload 7, 2) := by decide +kernel
theorem dX10_sortKeys_62 : decode cX10_sortKeys 62 = .ok (.aload_n 0, 1) := by decide +kernel
theorem dX10_sortKeys_63 : decode cX10_sortKeys 63 = .ok (.iload 7, 2) := by decide +kernel
theorem dX10_sortKeys_65 : decode cX10_sortKeys 65 = .ok (.iload_n 3, 1) := by decide +kernel
theorem dX10_sortKeys_66 : decode cX10_sortKeys 66 = .ok (.isub, 1) := by decide +kernel
theorem dX10_sortKeys_67 : decode cX10_sortKeys 67 = .ok (.laload, 1) := by decide +kernel
theorem dX10_sortKeys_68 : decode cX10_sortKeys 68 = .ok (.lastore, 1) := by decide +kernel
theorem dX10_sortKeys_69 : decode cX10_sortKeys 69 = .ok (.iload 7, 2) := by decide +kernel
theorem dX10_sortKeys_71 : decode cX10_sortKeys 71 = .ok (.iload_n 3, 1) := by decide +kernel
theorem dX10_sortKeys_72 : decode cX10_sortKeys 72 = .ok (.isub, 1) := by decide +kernel
theorem dX10_sortKeys_73 : decode cX10_sortKeys 73 = .ok (.istore 7, 2) := by decide +kernel
theorem dX10_sortKeys_75 : decode cX10_sortKeys 75 = .ok (.goto (-36), 3) := by decide +kernel
theorem dX10_sortKeys_78 : decode cX10_sortKeys 78 = .ok (.aload_n 0, 1) := by decide +kernel
theorem dX10_sortKeys_79 : decode cX10_sortKeys 79 = .ok (.iload 7, 2) := by decide +kernel
theorem dX10_sortKeys_81 : decode cX10_sortKeys 81 = .ok (.lload 5, 2) := by decide +kernel
theorem dX10_sortKeys_83 : decode cX10_sortKeys 83 = .ok (.lastore, 1) := by decide +kernel
theorem dX10_sortKeys_84 : decode cX10_sortKeys 84 = .ok (.iinc 4 1, 3) := by decide +kernel
theorem dX10_sortKeys_87 : decode cX10_sortKeys 87 = .ok (.goto (-64), 3) := by decide +kernel
theorem dX10_sortKeys_90 : decode cX10_sortKeys 90 = .ok (.iload_n 3, 1) := by decide +kernel
theorem dX10_sortKeys_91 : decode cX10_sortKeys 91 = .ok (.iconst 3, 1) := by decide +kernel
theorem dX10_sortKeys_92 : decode cX10_sortKeys 92 = .ok (.idiv, 1) := by decide +kernel
theorem dX10_sortKeys_93 : decode cX10_sortKeys 93 = .ok (.istore_n 3, 1) := by decide +kernel
theorem dX10_sortKeys_94 : decode cX10_sortKeys 94 = .ok (.goto (-80), 3) := by decide +kernel
theorem dX10_sortKeys_97 : decode cX10_sortKeys 97 = .ok (.return_, 1) := by decide +kernel
theorem dX11_init_0 : decode cX11_init 0 = .ok (.aload_n 0, 1) := by decide +kernel
theorem dX11_init_1 : decode cX11_init 1 = .ok (.invokespecial 1, 3) := by decide +kernel
theorem dX11_init_4 : decode cX11_init 4 = .ok (.aload_n 0, 1) := by decide +kernel
theorem dX11_init_5 : decode cX11_init 5 = .ok (.sipush 549, 3) := by decide +kernel
theorem dX11_init_8 : decode cX11_init 8 = .ok (.newarray .int, 2) := by decide +kernel
theorem dX11_init_10 : decode cX11_init 10 = .ok (.putfield 7, 3) := by decide +kernel
theorem dX11_init_13 : decode cX11_init 13 = .ok (.aload_n 0, 1) := by decide +kernel
theorem dX11_init_14 : decode cX11_init 14 = .ok (.sipush 5490, 3) := by decide +kernel
theorem dX11_init_17 : decode cX11_init 17 = .ok (.newarray .int, 2) := by decide +kernel
theorem dX11_init_19 : decode cX11_init 19 = .ok (.putfield 13, 3) := by decide +kernel
theorem dX11_init_22 : decode cX11_init 22 = .ok (.aload_n 0, 1) := by decide +kernel
theorem dX11_init_23 : decode cX11_init 23 = .ok (.sipush 140, 3) := by decide +kernel
theorem dX11_init_26 : decode cX11_init 26 = .ok (.newarray .int, 2) := by decide +kernel
theorem dX11_init_28 : decode cX11_init 28 = .ok (.putfield 16, 3) := by decide +kernel
theorem dX11_init_31 : decode cX11_init 31 = .ok (.aload_n 0, 1) := by decide +kernel
theorem dX11_init_32 : decode cX11_init 32 = .ok (.sipush 256, 3) := by decide +kernel
theorem dX11_init_35 : decode cX11_init 35 = .ok (.newarray .int, 2) := by decide +kernel
theorem dX11_init_37 : decode cX11_init 37 = .ok (.putfield 19, 3) := by decide +kernel
theorem dX11_init_40 : decode cX11_init 40 = .ok (.aload_n 0, 1) := by decide +kernel
theorem dX11_init_41 : decode cX11_init 41 = .ok (.sipush 256, 3) := by decide +kernel
theorem dX11_init_44 : decode cX11_init 44 = .ok (.newarray .int, 2) := by decide +kernel
theorem dX11_init_46 : decode cX11_init 46 = .ok (.putfield 22, 3) := by decide +kernel
theorem dX11_init_49 : decode cX11_init 49 = .ok (.aload_n 0, 1) := by decide +kernel
theorem dX11_init_50 : decode cX11_init 50 = .ok (.bipush 16, 2) := by decide +kernel
theorem dX11_init_52 : decode cX11_init 52 = .ok (.newarray .int, 2) := by decide +kernel
theorem dX11_init_54 : decode cX11_init 54 = .ok (.putfield 25, 3) := by decide +kernel
theorem dX11_init_57 : decode cX11_init 57 = .ok (.aload_n 0, 1) := by decide +kernel
theorem dX11_init_58 : decode cX11_init 58 = .ok (.bipush 16, 2) := by decide +kernel
theorem dX11_init_60 : decode cX11_init 60 = .ok (.newarray .int, 2) := by decide +kernel
theorem dX11_init_62 : decode cX11_init 62 = .ok (.putfield 28, 3) := by decide +kernel
theorem dX11_init_65 : decode cX11_init 65 = .ok (.aload_n 0, 1) := by decide +kernel
theorem dX11_init_66 : decode cX11_init 66 = .ok (.bipush 16, 2) := by decide +kernel
theorem dX11_init_68 : decode cX11_init 68 = .ok (.newarray .int, 2) := by decide +kernel
theorem dX11_init_70 : decode cX11_init 70 = .ok (.putfield 31, 3) := by decide +kernel
theorem dX11_init_73 : decode cX11_init 73 = .ok (.aload_n 0, 1) := by decide +kernel
theorem dX11_init_74 : decode cX11_init 74 = .ok (.bipush 16, 2) := by decide +kernel
theorem dX11_init_76 : decode cX11_init 76 = .ok (.newarray .int, 2) := by decide +kernel
theorem dX11_init_78 : decode cX11_init 78 = .ok (.putfield 34, 3) := by decide +kernel
theorem dX11_init_81 : decode cX11_init 81 = .ok (.aload_n 0, 1) := by decide +kernel
theorem dX11_init_82 : decode cX11_init 82 = .ok (.bipush 16, 2) := by decide +kernel
theorem dX11_init_84 : decode cX11_init 84 = .ok (.newarray .int, 2) := by decide +kernel
theorem dX11_init_86 : decode cX11_init 86 = .ok (.putfield 37, 3) := by decide +kernel
theorem dX11_init_89 : decode cX11_init 89 = .ok (.aload_n 0, 1) := by decide +kernel
theorem dX11_init_90 : decode cX11_init 90 = .ok (.bipush 16, 2) := by decide +kernel
theorem dX11_init_92 : decode cX11_init 92 = .ok (.newarray .int, 2) := by decide +kernel
theorem dX11_init_94 : decode cX11_init 94 = .ok (.putfield 40, 3) := by decide +kernel
theorem dX11_init_97 : decode cX11_init 97 = .ok (.aload_n 0, 1) := by decide +kernel
theorem dX11_init_98 : decode cX11_init 98 = .ok (.sipush 256, 3) := by decide +kernel
theorem dX11_init_101 : decode cX11_init 101 = .ok (.newarray .int, 2) := by decide +kernel
theorem dX11_init_103 : decode cX11_init 103 = .ok (.putfield 43, 3) := by decide +kernel
theorem dX11_init_106 : decode cX11_init 106 = .ok (.aload_n 0, 1) := by decide +kernel
theorem dX11_init_107 : decode cX11_init 107 = .ok (.bipush 48, 2) := by decide +kernel
theorem dX11_init_109 : decode cX11_init 109 = .ok (.newarray .int, 2) := by decide +kernel
theorem dX11_init_111 : decode cX11_init 111 = .ok (.putfield 46, 3) := by decide +kernel
theorem dX11_init_114 : decode cX11_init 114 = .ok (.aload_n 0, 1) := by decide +kernel
theorem dX11_init_115 : decode cX11_init 115 = .ok (.bipush 16, 2) := by decide +kernel
theorem dX11_init_117 : decode cX11_init 117 = .ok (.newarray .boolean, 2) := by decide +kernel
theorem dX11_init_119 : decode cX11_init 119 = .ok (.putfield 49, 3) := by decide +kernel
theorem dX11_init_122 : decode cX11_init 122 = .ok (.aload_n 0, 1) := by decide +kernel
theorem dX11_init_123 : decode cX11_init 123 = .ok (.sipush 768, 3) := by decide +kernel
theorem dX11_init_126 : decode cX11_init 126 = .ok (.newarray .int, 2) := by decide +kernel
theorem dX11_init_128 : decode cX11_init 128 = .ok (.putfield 53, 3) := by decide +kernel
theorem dX11_init_131 : decode cX11_init 131 = .ok (.aload_n 0, 1) := by decide +kernel
theorem dX11_init_132 : decode cX11_init 132 = .ok (.getfield 7, 3) := by decide +kernel
theorem dX11_init_135 : decode cX11_init 135 = .ok (.iconst 0, 1) := by decide +kernel
theorem dX11_init_136 : decode cX11_init 136 = .ok (.iconst 1, 1) := by decide +kernel
theorem dX11_init_137 : decode cX11_init 137 = .ok (.iastore, 1) := by decide +kernel
theorem dX11_init_138 : decode cX11_init 138 = .ok (.aload_n 0, 1) := by decide +kernel
theorem dX11_init_139 : decode cX11_init 139 = .ok (.getfield 7, 3) := by decide +kernel
theorem dX11_init_142 : decode cX11_init 142 = .ok (.iconst 1, 1) := by decide +kernel
theorem dX11_init_143 : decode cX11_init 143 = .ok (.iconst 1, 1) := by decide +kernel
theorem dX11_init_144 : decode cX11_init 144 = .ok (.iastore, 1) := by decide +kernel
theorem dX11_init_145 : decode cX11_init 145 = .ok (.return_, 1) := by decide +kernel
theorem dX11_in_0 : decode cX11_in 0 = .ok (.iload_n 0, 1) := by decide +kernel
theorem dX11_in_1 : decode cX11_in 1 = .ok (.iload_n 1, 1) := by decide +kernel
theorem dX11_in_2 : decode cX11_in 2 = .ok (.if_icmp .lt 12, 3) := by decide +kernel
theorem dX11_in_5 : decode cX11_in 5 = .ok (.iload_n 0, 1) := by decide +kernel
theorem dX11_in_6 : decode cX11_in 6 = .ok (.iload_n 2, 1) := by decide +kernel
theorem dX11_in_7 : decode cX11_in 7 = .ok (.if_icmp .gt 7, 3) := by decide +kernel
theorem dX11_in_10 : decode cX11_in 10 = .ok (.iconst 1, 1) := by decide +kernel
theorem dX11_in_11 : decode cX11_in 11 = .ok (.goto 4, 3) := by decide +kernel
theorem dX11_in_14 : decode cX11_in 14 = .ok (.iconst 0, 1) := by decide +kernel
theorem dX11_in_15 : decode cX11_in 15 = .ok (.ireturn, 1) := by decide +kernel
theorem dX11_isColor_0 : decode cX11_isColor 0 = .ok (.iload_n 0, 1) := by decide +kernel
theorem dX11_isColor_1 : decode cX11_isColor 1 = .ok (.iconst 0, 1) := by decide +kernel
theorem dX11_isColor_2 : decode cX11_isColor 2 = .ok (.ldc 56, 2) := by decide +kernel
theorem dX11_isColor_4 : decode cX11_isColor 4 = .ok (.invokestatic 57, 3) := by decide +kernel
theorem dX11_isColor_7 : decode cX11_isColor 7 = .ok (.ireturn, 1) := by decide +kernel
theorem dX11_channel_0 : decode cX11_channel 0 = .ok (.iload_n 0, 1) := by decide +kernel
theorem dX11_channel_1 : decode cX11_channel 1 = .ok (.bipush 16, 2) := by decide +kernel
theorem dX11_channel_3 : decode cX11_channel 3 = .ok (.bipush 8, 2) := by decide +kernel
theorem dX11_channel_5 : decode cX11_channel 5 = .ok (.iload_n 1, 1) := by decide +kernel
theorem dX11_channel_6 : decode cX11_channel 6 = .ok (.imul, 1) := by decide +kernel
theorem dX11_channel_7 : decode cX11_channel 7 = .ok (.isub, 1) := by decide +kernel
theorem dX11_channel_8 : decode cX11_channel 8 = .ok (.ishr, 1) := by decide +kernel
theorem dX11_channel_9 : decode cX11_channel 9 = .ok (.sipush 255, 3) := by decide +kernel
theorem dX11_channel_12 : decode cX11_channel 12 = .ok (.iand, 1) := by decide +kernel
theorem dX11_channel_13 : decode cX11_channel 13 = .ok (.ireturn, 1) := by decide +kernel
theorem dX11_limited_0 : decode cX11_limited 0 = .ok (.iload_n 0, 1) := by decide +kernel
theorem dX11_limited_1 : decode cX11_limited 1 = .ok (.ifCond .ge 7, 3) := by decide +kernel
theorem dX11_limited_4 : decode cX11_limited 4 = .ok (.iconst 0, 1) := by decide +kernel
theorem dX11_limited_5 : decode cX11_limited 5 = .ok (.goto 17, 3) := by decide +kernel
theorem dX11_limited_8 : decode cX11_limited 8 = .ok (.iload_n 0, 1) := by decide +kernel
theorem dX11_limited_9 : decode cX11_limited 9 = .ok (.sipush 255, 3) := by decide +kernel
theorem dX11_limited_12 : decode cX11_limited 12 = .ok (.if_icmp .le 9, 3) := by decide +kernel
theorem dX11_limited_15 : decode cX11_limited 15 = .ok (.sipush 255, 3) := by decide +kernel
theorem dX11_limited_18 : decode cX11_limited 18 = .ok (.goto 4, 3) := by decide +kernel
theorem dX11_limited_21 : decode cX11_limited 21 = .ok (.iload_n 0, 1) := by decide +kernel
theorem dX11_limited_22 : decode cX11_limited 22 = .ok (.ireturn, 1) := by decide +kernel
theorem dX11_pixels_0 : decode cX11_pixels 0 = .ok (.aload_n 0, 1) := by decide +kernel
theorem dX11_pixels_1 : decode cX11_pixels 1 = .ok (.getfield 7, 3) := by decide +kernel
theorem dX11_pixels_4 : decode cX11_pixels 4 = .ok (.iconst 0, 1) := by decide +kernel
theorem dX11_pixels_5 : decode cX11_pixels 5 = .ok (.iaload, 1) := by decide +kernel
theorem dX11_pixels_6 : decode cX11_pixels 6 = .ok (.aload_n 0, 1) := by decide +kernel
theorem dX11_pixels_7 : decode cX11_pixels 7 = .ok (.getfield 7, 3) := by decide +kernel
theorem dX11_pixels_10 : decode cX11_pixels 10 = .ok (.iconst 1, 1) := by decide +kernel
theorem dX11_pixels_11 : decode cX11_pixels 11 = .ok (.iaload, 1) := by decide +kernel
theorem dX11_pixels_12 : decode cX11_pixels 12 = .ok (.imul, 1) := by decide +kernel
theorem dX11_pixels_13 : decode cX11_pixels 13 = .ok (.ireturn, 1) := by decide +kernel
theorem dX11_isOpaque_0 : decode cX11_isOpaque 0 = .ok (.aload_n 0, 1) := by decide +kernel
theorem dX11_isOpaque_1 : decode cX11_isOpaque 1 = .ok (.getfield 7, 3) := by decide +kernel
theorem dX11_isOpaque_4 : decode cX11_isOpaque 4 = .ok (.iconst 2, 1) := by decide +kernel
theorem dX11_isOpaque_5 : decode cX11_isOpaque 5 = .ok (.iload_n 1, 1) := by decide +kernel
theorem dX11_isOpaque_6 : decode cX11_isOpaque 6 = .ok (.iadd, 1) := by decide +kernel
theorem dX11_isOpaque_7 : decode cX11_isOpaque 7 = .ok (.iaload, 1) := by decide +kernel
theorem dX11_isOpaque_8 : decode cX11_isOpaque 8 = .ok (.iconst (-1), 1) := by decide +kernel
theorem dX11_isOpaque_9 : decode cX11_isOpaque 9 = .ok (.if_icmp .eq 7, 3) := by decide +kernel
theorem dX11_isOpaque_12 : decode cX11_isOpaque 12 = .ok (.iconst 1, 1) := by decide +kernel
theorem dX11_isOpaque_13 : decode cX11_isOpaque 13 = .ok (.goto 4, 3) := by decide +kernel
theorem dX11_isOpaque_16 : decode cX11_isOpaque 16 = .ok (.iconst 0, 1) := by decide +kernel
theorem dX11_isOpaque_17 : decode cX11_isOpaque 17 = .ok (.ireturn, 1) := by decide +kernel
theorem dX11_opaque_0 : decode cX11_opaque 0 = .ok (.iconst 0, 1) := by decide +kernel
theorem dX11_opaque_1 : decode cX11_opaque 1 = .ok (.istore_n 1, 1) := by decide +kernel
theorem dX11_opaque_2 : decode cX11_opaque 2 = .ok (.iconst 0, 1) := by decide +kernel
theorem dX11_opaque_3 : decode cX11_opaque 3 = .ok (.istore_n 2, 1) := by decide +kernel
theorem dX11_opaque_4 : decode cX11_opaque 4 = .ok (.iload_n 2, 1) := by decide +kernel
theorem dX11_opaque_5 : decode cX11_opaque 5 = .ok (.aload_n 0, 1) := by decide +kernel
theorem dX11_opaque_6 : decode cX11_opaque 6 = .ok (.invokevirtual 61, 3) := by decide +kernel
theorem dX11_opaque_9 : decode cX11_opaque 9 = .ok (.if_icmp .ge 25, 3) := by decide +kernel
theorem dX11_opaque_12 : decode cX11_opaque 12 = .ok (.iload_n 1, 1) := by decide +kernel
theorem dX11_opaque_13 : decode cX11_opaque 13 = .ok (.aload_n 0, 1) := by decide +kernel
theorem dX11_opaque_14 : decode cX11_opaque 14 = .ok (.iload_n 2, 1) := by decide +kernel
theorem dX11_opaque_15 : decode cX11_opaque 15 = .ok (.invokevirtual 65, 3) := by decide +kernel
theorem dX11_opaque_18 : decode cX11_opaque 18 = .ok (.ifCond .eq 7, 3) := by decide +kernel
theorem dX11_opaque_21 : decode cX11_opaque 21 = .ok (.iconst 1, 1) := by decide +kernel
theorem dX11_opaque_22 : decode cX11_opaque 22 = .ok (.goto 4, 3) := by decide +kernel
theorem dX11_opaque_25 : decode cX11_opaque 25 = .ok (.iconst 0, 1) := by decide +kernel
theorem dX11_opaque_26 : decode cX11_opaque 26 = .ok (.iadd, 1) := by decide +kernel
theorem dX11_opaque_27 : decode cX11_opaque 27 = .ok (.istore_n 1, 1) := by decide +kernel
theorem dX11_opaque_28 : decode cX11_opaque 28 = .ok (.iinc 2 1, 3) := by decide +kernel
theorem dX11_opaque_31 : decode cX11_opaque 31 = .ok (.goto (-27), 3) := by decide +kernel
theorem dX11_opaque_34 : decode cX11_opaque 34 = .ok (.iload_n 1, 1) := by decide +kernel
theorem dX11_opaque_35 : decode cX11_opaque 35 = .ok (.ireturn, 1) := by decide +kernel
theorem dX11_isPixel_0 : decode cX11_isPixel 0 = .ok (.iload_n 1, 1) := by decide +kernel
theorem dX11_isPixel_1 : decode cX11_isPixel 1 = .ok (.iconst 0, 1) := by decide +kernel
theorem dX11_isPixel_2 : decode cX11_isPixel 2 = .ok (.aload_n 0, 1) := by decide +kernel
theorem dX11_isPixel_3 : decode cX11_isPixel 3 = .ok (.getfield 7, 3) := by decide +kernel
theorem dX11_isPixel_6 : decode cX11_isPixel 6 = .ok (.iconst 0, 1) := by decide +kernel
theorem dX11_isPixel_7 : decode cX11_isPixel 7 = .ok (.iaload, 1) := by decide +kernel
theorem dX11_isPixel_8 : decode cX11_isPixel 8 = .ok (.iconst 1, 1) := by decide +kernel
theorem dX11_isPixel_9 : decode cX11_isPixel 9 = .ok (.isub, 1) := by decide +kernel
theorem dX11_isPixel_10 : decode cX11_isPixel 10 = .ok (.invokestatic 57, 3) := by decide +kernel
theorem dX11_isPixel_13 : decode cX11_isPixel 13 = .ok (.ifCond .eq 23, 3) := by decide +kernel
theorem dX11_isPixel_16 : decode cX11_isPixel 16 = .ok (.iload_n 2, 1) := by decide +kernel
theorem dX11_isPixel_17 : decode cX11_isPixel 17 = .ok (.iconst 0, 1) := by decide +kernel
theorem dX11_isPixel_18 : decode cX11_isPixel 18 = .ok (.aload_n 0, 1) := by decide +kernel
theorem dX11_isPixel_19 : decode cX11_isPixel 19 = .ok (.getfield 7, 3) := by decide +kernel
theorem dX11_isPixel_22 : decode cX11_isPixel 22 = .ok (.iconst 1, 1) := by decide +kernel
theorem dX11_isPixel_23 : decode cX11_isPixel 23 = .ok (.iaload, 1) := by decide +kernel
theorem dX11_isPixel_24 : decode cX11_isPixel 24 = .ok (.iconst 1, 1) := by decide +kernel
theorem dX11_isPixel_25 : decode cX11_isPixel 25 = .ok (.isub, 1) := by decide +kernel
theorem dX11_isPixel_26 : decode cX11_isPixel 26 = .ok (.invokestatic 57, 3) := by decide +kernel
theorem dX11_isPixel_29 : decode cX11_isPixel 29 = .ok (.ifCond .eq 7, 3) := by decide +kernel
theorem dX11_isPixel_32 : decode cX11_isPixel 32 = .ok (.iconst 1, 1) := by decide +kernel
theorem dX11_isPixel_33 : decode cX11_isPixel 33 = .ok (.goto 4, 3) := by decide +kernel
theorem dX11_isPixel_36 : decode cX11_isPixel 36 = .ok (.iconst 0, 1) := by decide +kernel
theorem dX11_isPixel_37 : decode cX11_isPixel 37 = .ok (.ireturn, 1) := by decide +kernel
theorem dX11_isEntry_0 : decode cX11_isEntry 0 = .ok (.iload_n 1, 1) := by decide +kernel
theorem dX11_isEntry_1 : decode cX11_isEntry 1 = .ok (.iconst 0, 1) := by decide +kernel
theorem dX11_isEntry_2 : decode cX11_isEntry 2 = .ok (.aload_n 0, 1) := by decide +kernel
theorem dX11_isEntry_3 : decode cX11_isEntry 3 = .ok (.getfield 7, 3) := by decide +kernel
theorem dX11_isEntry_6 : decode cX11_isEntry 6 = .ok (.sipush 258, 3) := by decide +kernel
theorem dX11_isEntry_9 : decode cX11_isEntry 9 = .ok (.iaload, 1) := by decide +kernel
theorem dX11_isEntry_10 : decode cX11_isEntry 10 = .ok (.iconst 1, 1) := by decide +kernel
theorem dX11_isEntry_11 : decode cX11_isEntry 11 = .ok (.isub, 1) := by decide +kernel
theorem dX11_isEntry_12 : decode cX11_isEntry 12 = .ok (.invokestatic 57, 3) := by decide +kernel
theorem dX11_isEntry_15 : decode cX11_isEntry 15 = .ok (.ireturn, 1) := by decide +kernel
theorem dX11_isLocked_0 : decode cX11_isLocked 0 = .ok (.aload_n 0, 1) := by decide +kernel
theorem dX11_isLocked_1 : decode cX11_isLocked 1 = .ok (.getfield 7, 3) := by decide +kernel
theorem dX11_isLocked_4 : decode cX11_isLocked 4 = .ok (.sipush 275, 3) := by decide +kernel
theorem dX11_isLocked_7 : decode cX11_isLocked 7 = .ok (.iload_n 1, 1) := by decide +kernel
theorem dX11_isLocked_8 : decode cX11_isLocked 8 = .ok (.iadd, 1) := by decide +kernel
theorem dX11_isLocked_9 : decode cX11_isLocked 9 = .ok (.iaload, 1) := by decide +kernel
theorem dX11_isLocked_10 : decode cX11_isLocked 10 = .ok (.iconst 1, 1) := by decide +kernel
theorem dX11_isLocked_11 : decode cX11_isLocked 11 = .ok (.if_icmp .ne 7, 3) := by decide +kernel
theorem dX11_isLocked_14 : decode cX11_isLocked 14 = .ok (.iconst 1, 1) := by decide +kernel
theorem dX11_isLocked_15 : decode cX11_isLocked 15 = .ok (.goto 4, 3) := by decide +kernel
theorem dX11_isLocked_18 : decode cX11_isLocked 18 = .ok (.iconst 0, 1) := by decide +kernel
theorem dX11_isLocked_19 : decode cX11_isLocked 19 = .ok (.ireturn, 1) := by decide +kernel
theorem dX11_distance_0 : decode cX11_distance 0 = .ok (.iload_n 1, 1) := by decide +kernel
theorem dX11_distance_1 : decode cX11_distance 1 = .ok (.iconst 0, 1) := by decide +kernel
theorem dX11_distance_2 : decode cX11_distance 2 = .ok (.invokestatic 69, 3) := by decide +kernel
theorem dX11_distance_5 : decode cX11_distance 5 = .ok (.iload_n 2, 1) := by decide +kernel
theorem dX11_distance_6 : decode cX11_distance 6 = .ok (.iconst 0, 1) := by decide +kernel
theorem dX11_distance_7 : decode cX11_distance 7 = .ok (.invokestatic 69, 3) := by decide +kernel
theorem dX11_distance_10 : decode cX11_distance 10 = .ok (.isub, 1) := by decide +kernel
theorem dX11_distance_11 : decode cX11_distance 11 = .ok (.istore_n 3, 1) := by decide +kernel
theorem dX11_distance_12 : decode cX11_distance 12 = .ok (.iload_n 1, 1) := by decide +kernel
theorem dX11_distance_13 : decode cX11_distance 13 = .ok (.iconst 1, 1) := by decide +kernel
theorem dX11_distance_14 : decode cX11_distance 14 = .ok (.invokestatic 69, 3) := by decide +kernel
theorem dX11_distance_17 : decode cX11_distance 17 = .ok (.iload_n 2, 1) := by decide +kernel
theorem dX11_distance_18 : decode cX11_distance 18 = .ok (.iconst 1, 1) := by decide +kernel
theorem dX11_distance_19 : decode cX11_distance 19 = .ok (.invokestatic 69, 3) := by decide +kernel
theorem dX11_distance_22 : decode cX11_distance 22 = .ok (.isub, 1) := by decide +kernel
theorem dX11_distance_23 : decode cX11_distance 23 = .ok (.istore 4, 2) := by decide +kernel
theorem dX11_distance_25 : decode cX11_distance 25 = .ok (.iload_n 1, 1) := by decide +kernel
theorem dX11_distance_26 : decode cX11_distance 26 = .ok (.iconst 2, 1) := by decide +kernel
theorem dX11_distance_27 : decode cX11_distance 27 = .ok (.invokestatic 69, 3) := by decide +kernel
theorem dX11_distance_30 : decode cX11_distance 30 = .ok (.iload_n 2, 1) := by decide +kernel
theorem dX11_distance_31 : decode cX11_distance 31 = .ok (.iconst 2, 1) := by decide +kernel
theorem dX11_distance_32 : decode cX11_distance 32 = .ok (.invokestatic 69, 3) := by decide +kernel
theorem dX11_distance_35 : decode cX11_distance 35 = .ok (.isub, 1) := by decide +kernel
theorem dX11_distance_36 : decode cX11_distance 36 = .ok (.istore 5, 2) := by decide +kernel
theorem dX11_distance_38 : decode cX11_distance 38 = .ok (.aload_n 0, 1) := by decide +kernel
theorem dX11_distance_39 : decode cX11_distance 39 = .ok (.getfield 7, 3) := by decide +kernel
theorem dX11_distance_42 : decode cX11_distance 42 = .ok (.sipush 291, 3) := by decide +kernel
theorem dX11_distance_45 : decode cX11_distance 45 = .ok (.iaload, 1) := by decide +kernel
theorem dX11_distance_46 : decode cX11_distance 46 = .ok (.ifCond .ne 21, 3) := by decide +kernel
theorem dX11_distance_49 : decode cX11_distance 49 = .ok (.iload_n 3, 1) := by decide +kernel
theorem dX11_distance_50 : decode cX11_distance 50 = .ok (.iload_n 3, 1) := by decide +kernel
theorem dX11_distance_51 : decode cX11_distance 51 = .ok (.imul, 1) := by decide +kernel
theorem dX11_distance_52 : decode cX11_distance 52 = .ok (.iload 4, 2) := by decide +kernel
theorem dX11_distance_54 : decode cX11_distance 54 = .ok (.iload 4, 2) := by decide +kernel
theorem dX11_distance_56 : decode cX11_distance 56 = .ok (.imul, 1) := by decide +kernel
theorem dX11_distance_57 : decode cX11_distance 57 = .ok (.iadd, 1) := by decide +kernel
theorem dX11_distance_58 : decode cX11_distance 58 = .ok (.iload 5, 2) := by decide +kernel
theorem dX11_distance_60 : decode cX11_distance 60 = .ok (.iload 5, 2) := by decide +kernel
theorem dX11_distance_62 : decode cX11_distance 62 = .ok (.imul, 1) := by decide +kernel
theorem dX11_distance_63 : decode cX11_distance 63 = .ok (.iadd, 1) := by decide +kernel
theorem dX11_distance_64 : decode cX11_distance 64 = .ok (.goto 24, 3) := by decide +kernel
theorem dX11_distance_67 : decode cX11_distance 67 = .ok (.iconst 2, 1) := by decide +kernel
theorem dX11_distance_68 : decode cX11_distance 68 = .ok (.iload_n 3, 1) := by decide +kernel
theorem dX11_distance_69 : decode cX11_distance 69 = .ok (.imul, 1) := by decide +kernel
theorem dX11_distance_70 : decode cX11_distance 70 = .ok (.iload_n 3, 1) := by decide +kernel
theorem dX11_distance_71 : decode cX11_distance 71 = .ok (.imul, 1) := by decide +kernel
theorem dX11_distance_72 : decode cX11_distance 72 = .ok (.iconst 4, 1) := by decide +kernel
theorem dX11_distance_73 : decode cX11_distance 73 = .ok (.iload 4, 2) := by decide +kernel
theorem dX11_distance_75 : decode cX11_distance 75 = .ok (.imul, 1) := by decide +kernel
theorem dX11_distance_76 : decode cX11_distance 76 = .ok (.iload 4, 2) := by decide +kernel
theorem dX11_distance_78 : decode cX11_distance 78 = .ok (.imul, 1) := by decide +kernel
theorem dX11_distance_79 : decode cX11_distance 79 = .ok (.iadd, 1) := by decide +kernel
theorem dX11_distance_80 : decode cX11_distance 80 = .ok (.iconst 3, 1) := by decide +kernel
theorem dX11_distance_81 : decode cX11_distance 81 = .ok (.iload 5, 2) := by decide +kernel
theorem dX11_distance_83 : decode cX11_distance 83 = .ok (.imul, 1) := by decide +kernel
theorem dX11_distance_84 : decode cX11_distance 84 = .ok (.iload 5, 2) := by decide +kernel
theorem dX11_distance_86 : decode cX11_distance 86 = .ok (.imul, 1) := by decide +kernel
theorem dX11_distance_87 : decode cX11_distance 87 = .ok (.iadd, 1) := by decide +kernel
theorem dX11_distance_88 : decode cX11_distance 88 = .ok (.ireturn, 1) := by decide +kernel
theorem dX11_nearestBut_0 : decode cX11_nearestBut 0 = .ok (.iconst (-1), 1) := by decide +kernel
theorem dX11_nearestBut_1 : decode cX11_nearestBut 1 = .ok (.istore_n 3, 1) := by decide +kernel
theorem dX11_nearestBut_2 : decode cX11_nearestBut 2 = .ok (.iconst 0, 1) := by decide +kernel
theorem dX11_nearestBut_3 : decode cX11_nearestBut 3 = .ok (.istore 4, 2) := by decide +kernel
theorem dX11_nearestBut_5 : decode cX11_nearestBut 5 = .ok (.iload 4, 2) := by decide +kernel
theorem dX11_nearestBut_7 : decode cX11_nearestBut 7 = .ok (.aload_n 0, 1) := by decide +kernel
theorem dX11_nearestBut_8 : decode cX11_nearestBut 8 = .ok (.getfield 7, 3) := by decide +kernel
theorem dX11_nearestBut_11 : decode cX11_nearestBut 11 = .ok (.sipush 258, 3) := by decide +kernel
theorem dX11_nearestBut_14 : decode cX11_nearestBut 14 = .ok (.iaload, 1) := by decide +kernel
theorem dX11_nearestBut_15 : decode cX11_nearestBut 15 = .ok (.if_icmp .ge 73, 3) := by decide +kernel
theorem dX11_nearestBut_18 : decode cX11_nearestBut 18 = .ok (.iload 4, 2) := by decide +kernel
theorem dX11_nearestBut_20 : decode cX11_nearestBut 20 = .ok (.iload_n 2, 1) := by decide +kernel
theorem dX11_nearestBut_21 : decode cX11_nearestBut 21 = .ok (.if_icmp .eq 46, 3) := by decide +kernel
theorem dX11_nearestBut_24 : decode cX11_nearestBut 24 = .ok (.iload_n 3, 1) := by decide +kernel
theorem dX11_nearestBut_25 : decode cX11_nearestBut 25 = .ok (.iconst (-1), 1) := by decide +kernel
theorem dX11_nearestBut_26 : decode cX11_nearestBut 26 = .ok (.if_icmp .eq 37, 3) := by decide +kernel
theorem dX11_nearestBut_29 : decode cX11_nearestBut 29 = .ok (.aload_n 0, 1) := by decide +kernel
theorem dX11_nearestBut_30 : decode cX11_nearestBut 30 = .ok (.iload_n 1, 1) := by decide +kernel
theorem dX11_nearestBut_31 : decode cX11_nearestBut 31 = .ok (.aload_n 0, 1) := by decide +kernel
theorem dX11_nearestBut_32 : decode cX11_nearestBut 32 = .ok (.getfield 7, 3) := by decide +kernel
theorem dX11_nearestBut_35 : decode cX11_nearestBut 35 = .ok (.sipush 259, 3) := by decide +kernel
theorem dX11_nearestBut_38 : decode cX11_nearestBut 38 = .ok (.iload 4, 2) := by decide +kernel
theorem dX11_nearestBut_40 : decode cX11_nearestBut 40 = .ok (.iadd, 1) := by decide +kernel
theorem dX11_nearestBut_41 : decode cX11_nearestBut 41 = .ok (.iaload, 1) := by decide +kernel
theorem dX11_nearestBut_42 : decode cX11_nearestBut 42 = .ok (.invokevirtual 73, 3) := by decide +kernel
theorem dX11_nearestBut_45 : decode cX11_nearestBut 45 = .ok (.aload_n 0, 1) := by decide +kernel
theorem dX11_nearestBut_46 : decode cX11_nearestBut 46 = .ok (.iload_n 1, 1) := by decide +kernel
theorem dX11_nearestBut_47 : decode cX11_nearestBut 47 = .ok (.aload_n 0, 1) := by decide +kernel
theorem dX11_nearestBut_48 : decode cX11_nearestBut 48 = .ok (.getfield 7, 3) := by decide +kernel
theorem dX11_nearestBut_51 : decode cX11_nearestBut 51 = .ok (.sipush 259, 3) := by decide +kernel
theorem dX11_nearestBut_54 : decode cX11_nearestBut 54 = .ok (.iload_n 3, 1) := by decide +kernel
theorem dX11_nearestBut_55 : decode cX11_nearestBut 55 = .ok (.iadd, 1) := by decide +kernel
theorem dX11_nearestBut_56 : decode cX11_nearestBut 56 = .ok (.iaload, 1) := by decide +kernel
theorem dX11_nearestBut_57 : decode cX11_nearestBut 57 = .ok (.invokevirtual 73, 3) := by decide +kernel
theorem dX11_nearestBut_60 : decode cX11_nearestBut 60 = .ok (.if_icmp .ge 7, 3) := by decide +kernel
theorem dX11_nearestBut_63 : decode cX11_nearestBut 63 = .ok (.iconst 1, 1) := by decide +kernel
theorem dX11_nearestBut_64 : decode cX11_nearestBut 64 = .ok (.goto 4, 3) := by decide +kernel
theorem dX11_nearestBut_67 : decode cX11_nearestBut 67 = .ok (.iconst 0, 1) := by decide +kernel
theorem dX11_nearestBut_68 : decode cX11_nearestBut 68 = .ok (.istore 5, 2) := by decide +kernel
theorem dX11_nearestBut_70 : decode cX11_nearestBut 70 = .ok (.iload 5, 2) := by decide +kernel
theorem dX11_nearestBut_72 : decode cX11_nearestBut 72 = .ok (.ifCond .eq 8, 3) := by decide +kernel
theorem dX11_nearestBut_75 : decode cX11_nearestBut 75 = .ok (.iload 4, 2) := by decide +kernel
theorem dX11_nearestBut_77 : decode cX11_nearestBut 77 = .ok (.goto 4, 3) := by decide +kernel
theorem dX11_nearestBut_80 : decode cX11_nearestBut 80 = .ok (.iload_n 3, 1) := by decide +kernel
theorem dX11_nearestBut_81 : decode cX11_nearestBut 81 = .ok (.istore_n 3, 1) := by decide +kernel
theorem dX11_nearestBut_82 : decode cX11_nearestBut 82 = .ok (.iinc 4 1, 3) := by decide +kernel
theorem dX11_nearestBut_85 : decode cX11_nearestBut 85 = .ok (.goto (-80), 3) := by decide +kernel
theorem dX11_nearestBut_88 : decode cX11_nearestBut 88 = .ok (.iload_n 3, 1) := by decide +kernel
theorem dX11_nearestBut_89 : decode cX11_nearestBut 89 = .ok (.ireturn, 1) := by decide +kernel
theorem dX11_near_0 : decode cX11_near 0 = .ok (.aload_n 0, 1) := by decide +kernel
theorem dX11_near_1 : decode cX11_near 1 = .ok (.iload_n 1, 1) := by decide +kernel
theorem dX11_near_2 : decode cX11_near 2 = .ok (.iconst (-1), 1) := by decide +kernel
theorem dX11_near_3 : decode cX11_near 3 = .ok (.invokevirtual 76, 3) := by decide +kernel
theorem dX11_near_6 : decode cX11_near 6 = .ok (.ireturn, 1) := by decide +kernel
