theorem dX3_refreshLatest_77 : decode cX3_refreshLatest 77 = .ok (.ifCond .le 18, 3) := by decide +kernel
theorem dX3_refreshLatest_80 : decode cX3_refreshLatest 80 = .ok (.aload_n 1, 1) := by decide +kernel
theorem dX3_refreshLatest_81 : decode cX3_refreshLatest 81 = .ok (.iload_n 2, 1) := by decide +kernel
theorem dX3_refreshLatest_82 : decode cX3_refreshLatest 82 = .ok (.aload_n 0, 1) := by decide +kernel
theorem dX3_refreshLatest_83 : decode cX3_refreshLatest 83 = .ok (.getfield 52, 3) := by decide +kernel
theorem dX3_refreshLatest_86 : decode cX3_refreshLatest 86 = .ok (.getfield 131, 3) := by decide +kernel
theorem dX3_refreshLatest_89 : decode cX3_refreshLatest 89 = .ok (.iload_n 3, 1) := by decide +kernel
theorem dX3_refreshLatest_90 : decode cX3_refreshLatest 90 = .ok (.aaload, 1) := by decide +kernel
theorem dX3_refreshLatest_91 : decode cX3_refreshLatest 91 = .ok (.aastore, 1) := by decide +kernel
theorem dX3_refreshLatest_92 : decode cX3_refreshLatest 92 = .ok (.iinc 2 1, 3) := by decide +kernel
theorem dX3_refreshLatest_95 : decode cX3_refreshLatest 95 = .ok (.iinc 3 1, 3) := by decide +kernel
theorem dX3_refreshLatest_98 : decode cX3_refreshLatest 98 = .ok (.goto (-49), 3) := by decide +kernel
theorem dX3_refreshLatest_101 : decode cX3_refreshLatest 101 = .ok (.aload_n 0, 1) := by decide +kernel
theorem dX3_refreshLatest_102 : decode cX3_refreshLatest 102 = .ok (.invokevirtual 161, 3) := by decide +kernel
theorem dX3_refreshLatest_105 : decode cX3_refreshLatest 105 = .ok (.ifCond .eq 13, 3) := by decide +kernel
theorem dX3_refreshLatest_108 : decode cX3_refreshLatest 108 = .ok (.aload_n 1, 1) := by decide +kernel
theorem dX3_refreshLatest_109 : decode cX3_refreshLatest 109 = .ok (.iload_n 2, 1) := by decide +kernel
theorem dX3_refreshLatest_110 : decode cX3_refreshLatest 110 = .ok (.aload_n 0, 1) := by decide +kernel
theorem dX3_refreshLatest_111 : decode cX3_refreshLatest 111 = .ok (.invokevirtual 165, 3) := by decide +kernel
theorem dX3_refreshLatest_114 : decode cX3_refreshLatest 114 = .ok (.aastore, 1) := by decide +kernel
theorem dX3_refreshLatest_115 : decode cX3_refreshLatest 115 = .ok (.iinc 2 1, 3) := by decide +kernel
theorem dX3_refreshLatest_118 : decode cX3_refreshLatest 118 = .ok (.iload_n 2, 1) := by decide +kernel
theorem dX3_refreshLatest_119 : decode cX3_refreshLatest 119 = .ok (.iconst 3, 1) := by decide +kernel
theorem dX3_refreshLatest_120 : decode cX3_refreshLatest 120 = .ok (.if_icmp .le 15, 3) := by decide +kernel
theorem dX3_refreshLatest_123 : decode cX3_refreshLatest 123 = .ok (.aload_n 0, 1) := by decide +kernel
theorem dX3_refreshLatest_124 : decode cX3_refreshLatest 124 = .ok (.aload_n 1, 1) := by decide +kernel
theorem dX3_refreshLatest_125 : decode cX3_refreshLatest 125 = .ok (.iload_n 2, 1) := by decide +kernel
theorem dX3_refreshLatest_126 : decode cX3_refreshLatest 126 = .ok (.invokevirtual 169, 3) := by decide +kernel
theorem dX3_refreshLatest_129 : decode cX3_refreshLatest 129 = .ok (.iinc 2 (-1), 3) := by decide +kernel
theorem dX3_refreshLatest_132 : decode cX3_refreshLatest 132 = .ok (.goto (-14), 3) := by decide +kernel
theorem dX3_refreshLatest_135 : decode cX3_refreshLatest 135 = .ok (.aload_n 0, 1) := by decide +kernel
theorem dX3_refreshLatest_136 : decode cX3_refreshLatest 136 = .ok (.aload_n 1, 1) := by decide +kernel
theorem dX3_refreshLatest_137 : decode cX3_refreshLatest 137 = .ok (.iload_n 2, 1) := by decide +kernel
theorem dX3_refreshLatest_138 : decode cX3_refreshLatest 138 = .ok (.invokestatic 173, 3) := by decide +kernel
theorem dX3_refreshLatest_141 : decode cX3_refreshLatest 141 = .ok (.invokevirtual 177, 3) := by decide +kernel
theorem dX3_refreshLatest_144 : decode cX3_refreshLatest 144 = .ok (.return_, 1) := by decide +kernel
theorem dX3_addView_0 : decode cX3_addView 0 = .ok (.new 7, 3) := by decide +kernel
theorem dX3_addView_3 : decode cX3_addView 3 = .ok (.dup, 1) := by decide +kernel
theorem dX3_addView_4 : decode cX3_addView 4 = .ok (.invokespecial 9, 3) := by decide +kernel
theorem dX3_addView_7 : decode cX3_addView 7 = .ok (.astore_n 2, 1) := by decide +kernel
theorem dX3_addView_8 : decode cX3_addView 8 = .ok (.aload_n 2, 1) := by decide +kernel
theorem dX3_addView_9 : decode cX3_addView 9 = .ok (.aload_n 0, 1) := by decide +kernel
theorem dX3_addView_10 : decode cX3_addView 10 = .ok (.getfield 10, 3) := by decide +kernel
theorem dX3_addView_13 : decode cX3_addView 13 = .ok (.invokevirtual 107, 3) := by decide +kernel
theorem dX3_addView_16 : decode cX3_addView 16 = .ok (.aload_n 0, 1) := by decide +kernel
theorem dX3_addView_17 : decode cX3_addView 17 = .ok (.new 19, 3) := by decide +kernel
theorem dX3_addView_20 : decode cX3_addView 20 = .ok (.dup, 1) := by decide +kernel
theorem dX3_addView_21 : decode cX3_addView 21 = .ok (.aload_n 0, 1) := by decide +kernel
theorem dX3_addView_22 : decode cX3_addView 22 = .ok (.getfield 25, 3) := by decide +kernel
theorem dX3_addView_25 : decode cX3_addView 25 = .ok (.aload_n 2, 1) := by decide +kernel
theorem dX3_addView_26 : decode cX3_addView 26 = .ok (.aload_n 1, 1) := by decide +kernel
theorem dX3_addView_27 : decode cX3_addView 27 = .ok (.invokespecial 49, 3) := by decide +kernel
theorem dX3_addView_30 : decode cX3_addView 30 = .ok (.putfield 52, 3) := by decide +kernel
theorem dX3_addView_33 : decode cX3_addView 33 = .ok (.aload_n 0, 1) := by decide +kernel
theorem dX3_addView_34 : decode cX3_addView 34 = .ok (.getfield 21, 3) := by decide +kernel
theorem dX3_addView_37 : decode cX3_addView 37 = .ok (.aload_n 0, 1) := by decide +kernel
theorem dX3_addView_38 : decode cX3_addView 38 = .ok (.getfield 25, 3) := by decide +kernel
theorem dX3_addView_41 : decode cX3_addView 41 = .ok (.aload_n 0, 1) := by decide +kernel
theorem dX3_addView_42 : decode cX3_addView 42 = .ok (.getfield 52, 3) := by decide +kernel
theorem dX3_addView_45 : decode cX3_addView 45 = .ok (.aastore, 1) := by decide +kernel
theorem dX3_addView_46 : decode cX3_addView 46 = .ok (.aload_n 0, 1) := by decide +kernel
theorem dX3_addView_47 : decode cX3_addView 47 = .ok (.dup, 1) := by decide +kernel
theorem dX3_addView_48 : decode cX3_addView 48 = .ok (.getfield 25, 3) := by decide +kernel
theorem dX3_addView_51 : decode cX3_addView 51 = .ok (.iconst 1, 1) := by decide +kernel
theorem dX3_addView_52 : decode cX3_addView 52 = .ok (.iadd, 1) := by decide +kernel
theorem dX3_addView_53 : decode cX3_addView 53 = .ok (.putfield 25, 3) := by decide +kernel
theorem dX3_addView_56 : decode cX3_addView 56 = .ok (.return_, 1) := by decide +kernel
theorem dX3_firstOf_0 : decode cX3_firstOf 0 = .ok (.iload_n 1, 1) := by decide +kernel
theorem dX3_firstOf_1 : decode cX3_firstOf 1 = .ok (.anewarray 47, 3) := by decide +kernel
theorem dX3_firstOf_4 : decode cX3_firstOf 4 = .ok (.astore_n 2, 1) := by decide +kernel
theorem dX3_firstOf_5 : decode cX3_firstOf 5 = .ok (.iconst 0, 1) := by decide +kernel
theorem dX3_firstOf_6 : decode cX3_firstOf 6 = .ok (.istore_n 3, 1) := by decide +kernel
theorem dX3_firstOf_7 : decode cX3_firstOf 7 = .ok (.iload_n 3, 1) := by decide +kernel
theorem dX3_firstOf_8 : decode cX3_firstOf 8 = .ok (.iload_n 1, 1) := by decide +kernel
theorem dX3_firstOf_9 : decode cX3_firstOf 9 = .ok (.if_icmp .ge 15, 3) := by decide +kernel
theorem dX3_firstOf_12 : decode cX3_firstOf 12 = .ok (.aload_n 2, 1) := by decide +kernel
theorem dX3_firstOf_13 : decode cX3_firstOf 13 = .ok (.iload_n 3, 1) := by decide +kernel
theorem dX3_firstOf_14 : decode cX3_firstOf 14 = .ok (.aload_n 0, 1) := by decide +kernel
theorem dX3_firstOf_15 : decode cX3_firstOf 15 = .ok (.iload_n 3, 1) := by decide +kernel
theorem dX3_firstOf_16 : decode cX3_firstOf 16 = .ok (.aaload, 1) := by decide +kernel
theorem dX3_firstOf_17 : decode cX3_firstOf 17 = .ok (.aastore, 1) := by decide +kernel
theorem dX3_firstOf_18 : decode cX3_firstOf 18 = .ok (.iinc 3 1, 3) := by decide +kernel
theorem dX3_firstOf_21 : decode cX3_firstOf 21 = .ok (.goto (-14), 3) := by decide +kernel
theorem dX3_firstOf_24 : decode cX3_firstOf 24 = .ok (.aload_n 2, 1) := by decide +kernel
theorem dX3_firstOf_25 : decode cX3_firstOf 25 = .ok (.areturn, 1) := by decide +kernel
theorem dX3_isNewRow_0 : decode cX3_isNewRow 0 = .ok (.aload_n 0, 1) := by decide +kernel
theorem dX3_isNewRow_1 : decode cX3_isNewRow 1 = .ok (.getfield 10, 3) := by decide +kernel
theorem dX3_isNewRow_4 : decode cX3_isNewRow 4 = .ok (.iload_n 1, 1) := by decide +kernel
theorem dX3_isNewRow_5 : decode cX3_isNewRow 5 = .ok (.invokevirtual 158, 3) := by decide +kernel
theorem dX3_isNewRow_8 : decode cX3_isNewRow 8 = .ok (.aload_n 0, 1) := by decide +kernel
theorem dX3_isNewRow_9 : decode cX3_isNewRow 9 = .ok (.getfield 52, 3) := by decide +kernel
theorem dX3_isNewRow_12 : decode cX3_isNewRow 12 = .ok (.getfield 74, 3) := by decide +kernel
theorem dX3_isNewRow_15 : decode cX3_isNewRow 15 = .ok (.getfield 84, 3) := by decide +kernel
theorem dX3_isNewRow_18 : decode cX3_isNewRow 18 = .ok (.if_icmp .le 7, 3) := by decide +kernel
theorem dX3_isNewRow_21 : decode cX3_isNewRow 21 = .ok (.iconst 1, 1) := by decide +kernel
theorem dX3_isNewRow_22 : decode cX3_isNewRow 22 = .ok (.goto 4, 3) := by decide +kernel
theorem dX3_isNewRow_25 : decode cX3_isNewRow 25 = .ok (.iconst 0, 1) := by decide +kernel
theorem dX3_isNewRow_26 : decode cX3_isNewRow 26 = .ok (.ireturn, 1) := by decide +kernel
theorem dX3_hasNewRow_0 : decode cX3_hasNewRow 0 = .ok (.iconst 0, 1) := by decide +kernel
theorem dX3_hasNewRow_1 : decode cX3_hasNewRow 1 = .ok (.istore_n 1, 1) := by decide +kernel
theorem dX3_hasNewRow_2 : decode cX3_hasNewRow 2 = .ok (.iload_n 1, 1) := by decide +kernel
theorem dX3_hasNewRow_3 : decode cX3_hasNewRow 3 = .ok (.bipush 16, 2) := by decide +kernel
theorem dX3_hasNewRow_5 : decode cX3_hasNewRow 5 = .ok (.if_icmp .ge 19, 3) := by decide +kernel
theorem dX3_hasNewRow_8 : decode cX3_hasNewRow 8 = .ok (.aload_n 0, 1) := by decide +kernel
theorem dX3_hasNewRow_9 : decode cX3_hasNewRow 9 = .ok (.iload_n 1, 1) := by decide +kernel
theorem dX3_hasNewRow_10 : decode cX3_hasNewRow 10 = .ok (.invokevirtual 181, 3) := by decide +kernel
theorem dX3_hasNewRow_13 : decode cX3_hasNewRow 13 = .ok (.ifCond .eq 5, 3) := by decide +kernel
theorem dX3_hasNewRow_16 : decode cX3_hasNewRow 16 = .ok (.iconst 1, 1) := by decide +kernel
theorem dX3_hasNewRow_17 : decode cX3_hasNewRow 17 = .ok (.ireturn, 1) := by decide +kernel
theorem dX3_hasNewRow_18 : decode cX3_hasNewRow 18 = .ok (.iinc 1 1, 3) := by decide +kernel
theorem dX3_hasNewRow_21 : decode cX3_hasNewRow 21 = .ok (.goto (-19), 3) := by decide +kernel
theorem dX3_hasNewRow_24 : decode cX3_hasNewRow 24 = .ok (.iconst 0, 1) := by decide +kernel
theorem dX3_hasNewRow_25 : decode cX3_hasNewRow 25 = .ok (.ireturn, 1) := by decide +kernel
theorem dX3_segmentOfNewRows_0 : decode cX3_segmentOfNewRows 0 = .ok (.aload_n 0, 1) := by decide +kernel
theorem dX3_segmentOfNewRows_1 : decode cX3_segmentOfNewRows 1 = .ok (.invokevirtual 184, 3) := by decide +kernel
theorem dX3_segmentOfNewRows_4 : decode cX3_segmentOfNewRows 4 = .ok (.astore_n 1, 1) := by decide +kernel
theorem dX3_segmentOfNewRows_5 : decode cX3_segmentOfNewRows 5 = .ok (.iconst 0, 1) := by decide +kernel
theorem dX3_segmentOfNewRows_6 : decode cX3_segmentOfNewRows 6 = .ok (.istore_n 2, 1) := by decide +kernel
theorem dX3_segmentOfNewRows_7 : decode cX3_segmentOfNewRows 7 = .ok (.iload_n 2, 1) := by decide +kernel
theorem dX3_segmentOfNewRows_8 : decode cX3_segmentOfNewRows 8 = .ok (.bipush 16, 2) := by decide +kernel
theorem dX3_segmentOfNewRows_10 : decode cX3_segmentOfNewRows 10 = .ok (.if_icmp .ge 23, 3) := by decide +kernel
theorem dX3_segmentOfNewRows_13 : decode cX3_segmentOfNewRows 13 = .ok (.aload_n 0, 1) := by decide +kernel
theorem dX3_segmentOfNewRows_14 : decode cX3_segmentOfNewRows 14 = .ok (.iload_n 2, 1) := by decide +kernel
theorem dX3_segmentOfNewRows_15 : decode cX3_segmentOfNewRows 15 = .ok (.invokevirtual 181, 3) := by decide +kernel
theorem dX3_segmentOfNewRows_18 : decode cX3_segmentOfNewRows 18 = .ok (.ifCond .eq 9, 3) := by decide +kernel
theorem dX3_segmentOfNewRows_21 : decode cX3_segmentOfNewRows 21 = .ok (.aload_n 0, 1) := by decide +kernel
theorem dX3_segmentOfNewRows_22 : decode cX3_segmentOfNewRows 22 = .ok (.aload_n 1, 1) := by decide +kernel
theorem dX3_segmentOfNewRows_23 : decode cX3_segmentOfNewRows 23 = .ok (.iload_n 2, 1) := by decide +kernel
theorem dX3_segmentOfNewRows_24 : decode cX3_segmentOfNewRows 24 = .ok (.invokevirtual 187, 3) := by decide +kernel
theorem dX3_segmentOfNewRows_27 : decode cX3_segmentOfNewRows 27 = .ok (.iinc 2 1, 3) := by decide +kernel
theorem dX3_segmentOfNewRows_30 : decode cX3_segmentOfNewRows 30 = .ok (.goto (-23), 3) := by decide +kernel
theorem dX3_segmentOfNewRows_33 : decode cX3_segmentOfNewRows 33 = .ok (.aload_n 1, 1) := by decide +kernel
theorem dX3_segmentOfNewRows_34 : decode cX3_segmentOfNewRows 34 = .ok (.areturn, 1) := by decide +kernel
theorem dX3_mergeFewest_0 : decode cX3_mergeFewest 0 = .ok (.iconst 0, 1) := by decide +kernel
theorem dX3_mergeFewest_1 : decode cX3_mergeFewest 1 = .ok (.istore_n 3, 1) := by decide +kernel
theorem dX3_mergeFewest_2 : decode cX3_mergeFewest 2 = .ok (.bipush 17, 2) := by decide +kernel
theorem dX3_mergeFewest_4 : decode cX3_mergeFewest 4 = .ok (.istore 4, 2) := by decide +kernel
theorem dX3_mergeFewest_6 : decode cX3_mergeFewest 6 = .ok (.iconst 0, 1) := by decide +kernel
theorem dX3_mergeFewest_7 : decode cX3_mergeFewest 7 = .ok (.istore 5, 2) := by decide +kernel
theorem dX3_mergeFewest_9 : decode cX3_mergeFewest 9 = .ok (.iload 5, 2) := by decide +kernel
theorem dX3_mergeFewest_11 : decode cX3_mergeFewest 11 = .ok (.iconst 1, 1) := by decide +kernel
theorem dX3_mergeFewest_12 : decode cX3_mergeFewest 12 = .ok (.iadd, 1) := by decide +kernel
theorem dX3_mergeFewest_13 : decode cX3_mergeFewest 13 = .ok (.iload_n 2, 1) := by decide +kernel
theorem dX3_mergeFewest_14 : decode cX3_mergeFewest 14 = .ok (.if_icmp .ge 50, 3) := by decide +kernel
theorem dX3_mergeFewest_17 : decode cX3_mergeFewest 17 = .ok (.aload_n 1, 1) := by decide +kernel
theorem dX3_mergeFewest_18 : decode cX3_mergeFewest 18 = .ok (.iload 5, 2) := by decide +kernel
theorem dX3_mergeFewest_20 : decode cX3_mergeFewest 20 = .ok (.aaload, 1) := by decide +kernel
theorem dX3_mergeFewest_21 : decode cX3_mergeFewest 21 = .ok (.aload_n 0, 1) := by decide +kernel
theorem dX3_mergeFewest_22 : decode cX3_mergeFewest 22 = .ok (.getfield 10, 3) := by decide +kernel
theorem dX3_mergeFewest_25 : decode cX3_mergeFewest 25 = .ok (.invokevirtual 139, 3) := by decide +kernel
theorem dX3_mergeFewest_28 : decode cX3_mergeFewest 28 = .ok (.aload_n 1, 1) := by decide +kernel
theorem dX3_mergeFewest_29 : decode cX3_mergeFewest 29 = .ok (.iload 5, 2) := by decide +kernel
theorem dX3_mergeFewest_31 : decode cX3_mergeFewest 31 = .ok (.iconst 1, 1) := by decide +kernel
theorem dX3_mergeFewest_32 : decode cX3_mergeFewest 32 = .ok (.iadd, 1) := by decide +kernel
theorem dX3_mergeFewest_33 : decode cX3_mergeFewest 33 = .ok (.aaload, 1) := by decide +kernel
theorem dX3_mergeFewest_34 : decode cX3_mergeFewest 34 = .ok (.aload_n 0, 1) := by decide +kernel
theorem dX3_mergeFewest_35 : decode cX3_mergeFewest 35 = .ok (.getfield 10, 3) := by decide +kernel
theorem dX3_mergeFewest_38 : decode cX3_mergeFewest 38 = .ok (.invokevirtual 139, 3) := by decide +kernel
theorem dX3_mergeFewest_41 : decode cX3_mergeFewest 41 = .ok (.iadd, 1) := by decide +kernel
theorem dX3_mergeFewest_42 : decode cX3_mergeFewest 42 = .ok (.istore 6, 2) := by decide +kernel
theorem dX3_mergeFewest_44 : decode cX3_mergeFewest 44 = .ok (.iload 6, 2) := by decide +kernel
theorem dX3_mergeFewest_46 : decode cX3_mergeFewest 46 = .ok (.iload 4, 2) := by decide +kernel
theorem dX3_mergeFewest_48 : decode cX3_mergeFewest 48 = .ok (.if_icmp .ge 10, 3) := by decide +kernel
theorem dX3_mergeFewest_51 : decode cX3_mergeFewest 51 = .ok (.iload 6, 2) := by decide +kernel
theorem dX3_mergeFewest_53 : decode cX3_mergeFewest 53 = .ok (.istore 4, 2) := by decide +kernel
theorem dX3_mergeFewest_55 : decode cX3_mergeFewest 55 = .ok (.iload 5, 2) := by decide +kernel
theorem dX3_mergeFewest_57 : decode cX3_mergeFewest 57 = .ok (.istore_n 3, 1) := by decide +kernel
theorem dX3_mergeFewest_58 : decode cX3_mergeFewest 58 = .ok (.iinc 5 1, 3) := by decide +kernel
theorem dX3_mergeFewest_61 : decode cX3_mergeFewest 61 = .ok (.goto (-52), 3) := by decide +kernel
theorem dX3_mergeFewest_64 : decode cX3_mergeFewest 64 = .ok (.aload_n 1, 1) := by decide +kernel
theorem dX3_mergeFewest_65 : decode cX3_mergeFewest 65 = .ok (.iload_n 3, 1) := by decide +kernel
theorem dX3_mergeFewest_66 : decode cX3_mergeFewest 66 = .ok (.aload_n 0, 1) := by decide +kernel
theorem dX3_mergeFewest_67 : decode cX3_mergeFewest 67 = .ok (.aload_n 1, 1) := by decide +kernel
theorem dX3_mergeFewest_68 : decode cX3_mergeFewest 68 = .ok (.iload_n 3, 1) := by decide +kernel
theorem dX3_mergeFewest_69 : decode cX3_mergeFewest 69 = .ok (.aaload, 1) := by decide +kernel
theorem dX3_mergeFewest_70 : decode cX3_mergeFewest 70 = .ok (.aload_n 1, 1) := by decide +kernel
theorem dX3_mergeFewest_71 : decode cX3_mergeFewest 71 = .ok (.iload_n 3, 1) := by decide +kernel
theorem dX3_mergeFewest_72 : decode cX3_mergeFewest 72 = .ok (.iconst 1, 1) := by decide +kernel
theorem dX3_mergeFewest_73 : decode cX3_mergeFewest 73 = .ok (.iadd, 1) := by decide +kernel
theorem dX3_mergeFewest_74 : decode cX3_mergeFewest 74 = .ok (.aaload, 1) := by decide +kernel
theorem dX3_mergeFewest_75 : decode cX3_mergeFewest 75 = .ok (.invokevirtual 191, 3) := by decide +kernel
theorem dX3_mergeFewest_78 : decode cX3_mergeFewest 78 = .ok (.aastore, 1) := by decide +kernel
theorem dX3_mergeFewest_79 : decode cX3_mergeFewest 79 = .ok (.iload_n 3, 1) := by decide +kernel
theorem dX3_mergeFewest_80 : decode cX3_mergeFewest 80 = .ok (.iconst 1, 1) := by decide +kernel
theorem dX3_mergeFewest_81 : decode cX3_mergeFewest 81 = .ok (.iadd, 1) := by decide +kernel
theorem dX3_mergeFewest_82 : decode cX3_mergeFewest 82 = .ok (.istore 5, 2) := by decide +kernel
theorem dX3_mergeFewest_84 : decode cX3_mergeFewest 84 = .ok (.iload 5, 2) := by decide +kernel
theorem dX3_mergeFewest_86 : decode cX3_mergeFewest 86 = .ok (.iconst 1, 1) := by decide +kernel
theorem dX3_mergeFewest_87 : decode cX3_mergeFewest 87 = .ok (.iadd, 1) := by decide +kernel
theorem dX3_mergeFewest_88 : decode cX3_mergeFewest 88 = .ok (.iload_n 2, 1) := by decide +kernel
theorem dX3_mergeFewest_89 : decode cX3_mergeFewest 89 = .ok (.if_icmp .ge 19, 3) := by decide +kernel
theorem dX3_mergeFewest_92 : decode cX3_mergeFewest 92 = .ok (.aload_n 1, 1) := by decide +kernel
theorem dX3_mergeFewest_93 : decode cX3_mergeFewest 93 = .ok (.iload 5, 2) := by decide +kernel
theorem dX3_mergeFewest_95 : decode cX3_mergeFewest 95 = .ok (.aload_n 1, 1) := by decide +kernel
theorem dX3_mergeFewest_96 : decode cX3_mergeFewest 96 = .ok (.iload 5, 2) := by decide +kernel
theorem dX3_mergeFewest_98 : decode cX3_mergeFewest 98 = .ok (.iconst 1, 1) := by decide +kernel
theorem dX3_mergeFewest_99 : decode cX3_mergeFewest 99 = .ok (.iadd, 1) := by decide +kernel
theorem dX3_mergeFewest_100 : decode cX3_mergeFewest 100 = .ok (.aaload, 1) := by decide +kernel
theorem dX3_mergeFewest_101 : decode cX3_mergeFewest 101 = .ok (.aastore, 1) := by decide +kernel
theorem dX3_mergeFewest_102 : decode cX3_mergeFewest 102 = .ok (.iinc 5 1, 3) := by decide +kernel
theorem dX3_mergeFewest_105 : decode cX3_mergeFewest 105 = .ok (.goto (-21), 3) := by decide +kernel
theorem dX3_mergeFewest_108 : decode cX3_mergeFewest 108 = .ok (.return_, 1) := by decide +kernel
theorem dX3_segmentOfLiveRows_0 : decode cX3_segmentOfLiveRows 0 = .ok (.aload_n 0, 1) := by decide +kernel
theorem dX3_segmentOfLiveRows_1 : decode cX3_segmentOfLiveRows 1 = .ok (.invokevirtual 184, 3) := by decide +kernel
theorem dX3_segmentOfLiveRows_4 : decode cX3_segmentOfLiveRows 4 = .ok (.astore_n 3, 1) := by decide +kernel
theorem dX3_segmentOfLiveRows_5 : decode cX3_segmentOfLiveRows 5 = .ok (.iconst 0, 1) := by decide +kernel
theorem dX3_segmentOfLiveRows_6 : decode cX3_segmentOfLiveRows 6 = .ok (.istore 4, 2) := by decide +kernel
theorem dX3_segmentOfLiveRows_8 : decode cX3_segmentOfLiveRows 8 = .ok (.iload 4, 2) := by decide +kernel
theorem dX3_segmentOfLiveRows_10 : decode cX3_segmentOfLiveRows 10 = .ok (.bipush 16, 2) := by decide +kernel
theorem dX3_segmentOfLiveRows_12 : decode cX3_segmentOfLiveRows 12 = .ok (.if_icmp .ge 42, 3) := by decide +kernel
theorem dX3_segmentOfLiveRows_15 : decode cX3_segmentOfLiveRows 15 = .ok (.aload_n 1, 1) := by decide +kernel
theorem dX3_segmentOfLiveRows_16 : decode cX3_segmentOfLiveRows 16 = .ok (.iload 4, 2) := by decide +kernel
theorem dX3_segmentOfLiveRows_18 : decode cX3_segmentOfLiveRows 18 = .ok (.aload_n 0, 1) := by decide +kernel
theorem dX3_segmentOfLiveRows_19 : decode cX3_segmentOfLiveRows 19 = .ok (.getfield 10, 3) := by decide +kernel
theorem dX3_segmentOfLiveRows_22 : decode cX3_segmentOfLiveRows 22 = .ok (.invokevirtual 195, 3) := by decide +kernel
theorem dX3_segmentOfLiveRows_25 : decode cX3_segmentOfLiveRows 25 = .ok (.ifCond .ne 16, 3) := by decide +kernel
theorem dX3_segmentOfLiveRows_28 : decode cX3_segmentOfLiveRows 28 = .ok (.aload_n 2, 1) := by decide +kernel
theorem dX3_segmentOfLiveRows_29 : decode cX3_segmentOfLiveRows 29 = .ok (.iload 4, 2) := by decide +kernel
theorem dX3_segmentOfLiveRows_31 : decode cX3_segmentOfLiveRows 31 = .ok (.aload_n 0, 1) := by decide +kernel
theorem dX3_segmentOfLiveRows_32 : decode cX3_segmentOfLiveRows 32 = .ok (.getfield 10, 3) := by decide +kernel
theorem dX3_segmentOfLiveRows_35 : decode cX3_segmentOfLiveRows 35 = .ok (.invokevirtual 195, 3) := by decide +kernel
theorem dX3_segmentOfLiveRows_38 : decode cX3_segmentOfLiveRows 38 = .ok (.ifCond .eq 10, 3) := by decide +kernel
theorem dX3_segmentOfLiveRows_41 : decode cX3_segmentOfLiveRows 41 = .ok (.aload_n 0, 1) := by decide +kernel
theorem dX3_segmentOfLiveRows_42 : decode cX3_segmentOfLiveRows 42 = .ok (.aload_n 3, 1) := by decide +kernel
theorem dX3_segmentOfLiveRows_43 : decode cX3_segmentOfLiveRows 43 = .ok (.iload 4, 2) := by decide +kernel
theorem dX3_segmentOfLiveRows_45 : decode cX3_segmentOfLiveRows 45 = .ok (.invokevirtual 187, 3) := by decide +kernel
theorem dX3_segmentOfLiveRows_48 : decode cX3_segmentOfLiveRows 48 = .ok (.iinc 4 1, 3) := by decide +kernel
theorem dX3_segmentOfLiveRows_51 : decode cX3_segmentOfLiveRows 51 = .ok (.goto (-43), 3) := by decide +kernel
theorem dX3_segmentOfLiveRows_54 : decode cX3_segmentOfLiveRows 54 = .ok (.aload_n 3, 1) := by decide +kernel
theorem dX3_segmentOfLiveRows_55 : decode cX3_segmentOfLiveRows 55 = .ok (.areturn, 1) := by decide +kernel
theorem dX3_makeSegment_0 : decode cX3_makeSegment 0 = .ok (.new 47, 3) := by decide +kernel
theorem dX3_makeSegment_3 : decode cX3_makeSegment 3 = .ok (.dup, 1) := by decide +kernel
theorem dX3_makeSegment_4 : decode cX3_makeSegment 4 = .ok (.aload_n 0, 1) := by decide +kernel
theorem dX3_makeSegment_5 : decode cX3_makeSegment 5 = .ok (.getfield 29, 3) := by decide +kernel
theorem dX3_makeSegment_8 : decode cX3_makeSegment 8 = .ok (.invokespecial 199, 3) := by decide +kernel
theorem dX3_makeSegment_11 : decode cX3_makeSegment 11 = .ok (.astore_n 1, 1) := by decide +kernel
theorem dX3_makeSegment_12 : decode cX3_makeSegment 12 = .ok (.aload_n 0, 1) := by decide +kernel
theorem dX3_makeSegment_13 : decode cX3_makeSegment 13 = .ok (.dup, 1) := by decide +kernel
theorem dX3_makeSegment_14 : decode cX3_makeSegment 14 = .ok (.getfield 29, 3) := by decide +kernel
theorem dX3_makeSegment_17 : decode cX3_makeSegment 17 = .ok (.iconst 1, 1) := by decide +kernel
theorem dX3_makeSegment_18 : decode cX3_makeSegment 18 = .ok (.iadd, 1) := by decide +kernel
theorem dX3_makeSegment_19 : decode cX3_makeSegment 19 = .ok (.putfield 29, 3) := by decide +kernel
theorem dX3_makeSegment_22 : decode cX3_makeSegment 22 = .ok (.aload_n 1, 1) := by decide +kernel
theorem dX3_makeSegment_23 : decode cX3_makeSegment 23 = .ok (.areturn, 1) := by decide +kernel
theorem dX3_putRow_0 : decode cX3_putRow 0 = .ok (.aload_n 1, 1) := by decide +kernel
theorem dX3_putRow_1 : decode cX3_putRow 1 = .ok (.iload_n 2, 1) := by decide +kernel
theorem dX3_putRow_2 : decode cX3_putRow 2 = .ok (.aload_n 0, 1) := by decide +kernel
theorem dX3_putRow_3 : decode cX3_putRow 3 = .ok (.getfield 10, 3) := by decide +kernel
theorem dX3_putRow_6 : decode cX3_putRow 6 = .ok (.getfield 121, 3) := by decide +kernel
theorem dX3_putRow_9 : decode cX3_putRow 9 = .ok (.iload_n 2, 1) := by decide +kernel
theorem dX3_putRow_10 : decode cX3_putRow 10 = .ok (.iaload, 1) := by decide +kernel
theorem dX3_putRow_11 : decode cX3_putRow 11 = .ok (.invokevirtual 202, 3) := by decide +kernel
theorem dX3_putRow_14 : decode cX3_putRow 14 = .ok (.aload_n 0, 1) := by decide +kernel
theorem dX3_putRow_15 : decode cX3_putRow 15 = .ok (.dup, 1) := by decide +kernel
theorem dX3_putRow_16 : decode cX3_putRow 16 = .ok (.getfield 32, 3) := by decide +kernel
theorem dX3_putRow_19 : decode cX3_putRow 19 = .ok (.iconst 1, 1) := by decide +kernel
theorem dX3_putRow_20 : decode cX3_putRow 20 = .ok (.iadd, 1) := by decide +kernel
theorem dX3_putRow_21 : decode cX3_putRow 21 = .ok (.putfield 32, 3) := by decide +kernel
theorem dX3_putRow_24 : decode cX3_putRow 24 = .ok (.return_, 1) := by decide +kernel
theorem dX3_closeAll_0 : decode cX3_closeAll 0 = .ok (.iconst 0, 1) := by decide +kernel
theorem dX3_closeAll_1 : decode cX3_closeAll 1 = .ok (.istore_n 1, 1) := by decide +kernel
theorem dX3_closeAll_2 : decode cX3_closeAll 2 = .ok (.iload_n 1, 1) := by decide +kernel
theorem dX3_closeAll_3 : decode cX3_closeAll 3 = .ok (.aload_n 0, 1) := by decide +kernel
theorem dX3_closeAll_4 : decode cX3_closeAll 4 = .ok (.getfield 25, 3) := by decide +kernel
theorem dX3_closeAll_7 : decode cX3_closeAll 7 = .ok (.if_icmp .ge 28, 3) := by decide +kernel
theorem dX3_closeAll_10 : decode cX3_closeAll 10 = .ok (.aload_n 0, 1) := by decide +kernel
theorem dX3_closeAll_11 : decode cX3_closeAll 11 = .ok (.getfield 21, 3) := by decide +kernel
theorem dX3_closeAll_14 : decode cX3_closeAll 14 = .ok (.iload_n 1, 1) := by decide +kernel
theorem dX3_closeAll_15 : decode cX3_closeAll 15 = .ok (.aaload, 1) := by decide +kernel
theorem dX3_closeAll_16 : decode cX3_closeAll 16 = .ok (.ifnull 13, 3) := by decide +kernel
theorem dX3_closeAll_19 : decode cX3_closeAll 19 = .ok (.aload_n 0, 1) := by decide +kernel
theorem dX3_closeAll_20 : decode cX3_closeAll 20 = .ok (.getfield 21, 3) := by decide +kernel
theorem dX3_closeAll_23 : decode cX3_closeAll 23 = .ok (.iload_n 1, 1) := by decide +kernel
theorem dX3_closeAll_24 : decode cX3_closeAll 24 = .ok (.aaload, 1) := by decide +kernel
theorem dX3_closeAll_25 : decode cX3_closeAll 25 = .ok (.iconst 0, 1) := by decide +kernel
theorem dX3_closeAll_26 : decode cX3_closeAll 26 = .ok (.putfield 114, 3) := by decide +kernel
theorem dX3_closeAll_29 : decode cX3_closeAll 29 = .ok (.iinc 1 1, 3) := by decide +kernel
theorem dX3_closeAll_32 : decode cX3_closeAll 32 = .ok (.goto (-30), 3) := by decide +kernel
theorem dX3_closeAll_35 : decode cX3_closeAll 35 = .ok (.return_, 1) := by decide +kernel
theorem dX3_letGo_0 : decode cX3_letGo 0 = .ok (.iconst 0, 1) := by decide +kernel
theorem dX3_letGo_1 : decode cX3_letGo 1 = .ok (.istore_n 1, 1) := by decide +kernel
theorem dX3_letGo_2 : decode cX3_letGo 2 = .ok (.iload_n 1, 1) := by decide +kernel
theorem dX3_letGo_3 : decode cX3_letGo 3 = .ok (.aload_n 0, 1) := by decide +kernel
theorem dX3_letGo_4 : decode cX3_letGo 4 = .ok (.getfield 25, 3) := by decide +kernel
theorem dX3_letGo_7 : decode cX3_letGo 7 = .ok (.if_icmp .ge 56, 3) := by decide +kernel
theorem dX3_letGo_10 : decode cX3_letGo 10 = .ok (.aload_n 0, 1) := by decide +kernel
theorem dX3_letGo_11 : decode cX3_letGo 11 = .ok (.getfield 21, 3) := by decide +kernel
theorem dX3_letGo_14 : decode cX3_letGo 14 = .ok (.iload_n 1, 1) := by decide +kernel
theorem dX3_letGo_15 : decode cX3_letGo 15 = .ok (.aaload, 1) := by decide +kernel
theorem dX3_letGo_16 : decode cX3_letGo 16 = .ok (.astore_n 2, 1) := by decide +kernel
theorem dX3_letGo_17 : decode cX3_letGo 17 = .ok (.aload_n 2, 1) := by decide +kernel
theorem dX3_letGo_18 : decode cX3_letGo 18 = .ok (.ifnull 39, 3) := by decide +kernel
theorem dX3_letGo_21 : decode cX3_letGo 21 = .ok (.aload_n 2, 1) := by decide +kernel
theorem dX3_letGo_22 : decode cX3_letGo 22 = .ok (.getfield 114, 3) := by decide +kernel
theorem dX3_letGo_25 : decode cX3_letGo 25 = .ok (.ifCond .ne 32, 3) := by decide +kernel
theorem dX3_letGo_28 : decode cX3_letGo 28 = .ok (.iload_n 1, 1) := by decide +kernel
theorem dX3_letGo_29 : decode cX3_letGo 29 = .ok (.aload_n 0, 1) := by decide +kernel
theorem dX3_letGo_30 : decode cX3_letGo 30 = .ok (.getfield 52, 3) := by decide +kernel
theorem dX3_letGo_33 : decode cX3_letGo 33 = .ok (.getfield 104, 3) := by decide +kernel
theorem dX3_letGo_36 : decode cX3_letGo 36 = .ok (.if_icmp .eq 21, 3) := by decide +kernel
theorem dX3_letGo_39 : decode cX3_letGo 39 = .ok (.iload_n 1, 1) := by decide +kernel
theorem dX3_letGo_40 : decode cX3_letGo 40 = .ok (.aload_n 0, 1) := by decide +kernel
theorem dX3_letGo_41 : decode cX3_letGo 41 = .ok (.getfield 56, 3) := by decide +kernel
theorem dX3_letGo_44 : decode cX3_letGo 44 = .ok (.getfield 104, 3) := by decide +kernel
theorem dX3_letGo_47 : decode cX3_letGo 47 = .ok (.if_icmp .eq 10, 3) := by decide +kernel
theorem dX3_letGo_50 : decode cX3_letGo 50 = .ok (.aload_n 0, 1) := by decide +kernel
theorem dX3_letGo_51 : decode cX3_letGo 51 = .ok (.getfield 21, 3) := by decide +kernel
theorem dX3_letGo_54 : decode cX3_letGo 54 = .ok (.iload_n 1, 1) := by decide +kernel
theorem dX3_letGo_55 : decode cX3_letGo 55 = .ok (.aconst_null, 1) := by decide +kernel
theorem dX3_letGo_56 : decode cX3_letGo 56 = .ok (.aastore, 1) := by decide +kernel
theorem dX3_letGo_57 : decode cX3_letGo 57 = .ok (.iinc 1 1, 3) := by decide +kernel
theorem dX3_letGo_60 : decode cX3_letGo 60 = .ok (.goto (-58), 3) := by decide +kernel
theorem dX3_letGo_63 : decode cX3_letGo 63 = .ok (.return_, 1) := by decide +kernel
theorem dX3_countHeld_0 : decode cX3_countHeld 0 = .ok (.iconst 0, 1) := by decide +kernel
theorem dX3_countHeld_1 : decode cX3_countHeld 1 = .ok (.istore_n 1, 1) := by decide +kernel
theorem dX3_countHeld_2 : decode cX3_countHeld 2 = .ok (.iconst 0, 1) := by decide +kernel
theorem dX3_countHeld_3 : decode cX3_countHeld 3 = .ok (.istore_n 2, 1) := by decide +kernel
theorem dX3_countHeld_4 : decode cX3_countHeld 4 = .ok (.iload_n 2, 1) := by decide +kernel
theorem dX3_countHeld_5 : decode cX3_countHeld 5 = .ok (.aload_n 0, 1) := by decide +kernel
theorem dX3_countHeld_6 : decode cX3_countHeld 6 = .ok (.getfield 25, 3) := by decide +kernel
theorem dX3_countHeld_9 : decode cX3_countHeld 9 = .ok (.if_icmp .ge 21, 3) := by decide +kernel
theorem dX3_countHeld_12 : decode cX3_countHeld 12 = .ok (.aload_n 0, 1) := by decide +kernel
theorem dX3_countHeld_13 : decode cX3_countHeld 13 = .ok (.getfield 21, 3) := by decide +kernel
theorem dX3_countHeld_16 : decode cX3_countHeld 16 = .ok (.iload_n 2, 1) := by decide +kernel
theorem dX3_countHeld_17 : decode cX3_countHeld 17 = .ok (.aaload, 1) := by decide +kernel
theorem dX3_countHeld_18 : decode cX3_countHeld 18 = .ok (.ifnull 6, 3) := by decide +kernel
theorem dX3_countHeld_21 : decode cX3_countHeld 21 = .ok (.iinc 1 1, 3) := by decide +kernel
theorem dX3_countHeld_24 : decode cX3_countHeld 24 = .ok (.iinc 2 1, 3) := by decide +kernel
theorem dX3_countHeld_27 : decode cX3_countHeld 27 = .ok (.goto (-23), 3) := by decide +kernel
theorem dX3_countHeld_30 : decode cX3_countHeld 30 = .ok (.iload_n 1, 1) := by decide +kernel
theorem dX3_countHeld_31 : decode cX3_countHeld 31 = .ok (.ireturn, 1) := by decide +kernel
theorem dX3_countSegmentsThere_0 : decode cX3_countSegmentsThere 0 = .ok (.aload_n 0, 1) := by decide +kernel
theorem dX3_countSegmentsThere_1 : decode cX3_countSegmentsThere 1 = .ok (.dup, 1) := by decide +kernel
theorem dX3_countSegmentsThere_2 : decode cX3_countSegmentsThere 2 = .ok (.getfield 44, 3) := by decide +kernel
theorem dX3_countSegmentsThere_5 : decode cX3_countSegmentsThere 5 = .ok (.iconst 1, 1) := by decide +kernel
theorem dX3_countSegmentsThere_6 : decode cX3_countSegmentsThere 6 = .ok (.iadd, 1) := by decide +kernel
theorem dX3_countSegmentsThere_7 : decode cX3_countSegmentsThere 7 = .ok (.putfield 44, 3) := by decide +kernel
theorem dX3_countSegmentsThere_10 : decode cX3_countSegmentsThere 10 = .ok (.iconst 0, 1) := by decide +kernel
theorem dX3_countSegmentsThere_11 : decode cX3_countSegmentsThere 11 = .ok (.istore_n 1, 1) := by decide +kernel
theorem dX3_countSegmentsThere_12 : decode cX3_countSegmentsThere 12 = .ok (.iconst 0, 1) := by decide +kernel
theorem dX3_countSegmentsThere_13 : decode cX3_countSegmentsThere 13 = .ok (.istore_n 2, 1) := by decide +kernel
theorem dX3_countSegmentsThere_14 : decode cX3_countSegmentsThere 14 = .ok (.iload_n 2, 1) := by decide +kernel
theorem dX3_countSegmentsThere_15 : decode cX3_countSegmentsThere 15 = .ok (.aload_n 0, 1) := by decide +kernel
theorem dX3_countSegmentsThere_16 : decode cX3_countSegmentsThere 16 = .ok (.getfield 25, 3) := by decide +kernel
theorem dX3_countSegmentsThere_19 : decode cX3_countSegmentsThere 19 = .ok (.if_icmp .ge 31, 3) := by decide +kernel
theorem dX3_countSegmentsThere_22 : decode cX3_countSegmentsThere 22 = .ok (.aload_n 0, 1) := by decide +kernel
theorem dX3_countSegmentsThere_23 : decode cX3_countSegmentsThere 23 = .ok (.getfield 21, 3) := by decide +kernel
theorem dX3_countSegmentsThere_26 : decode cX3_countSegmentsThere 26 = .ok (.iload_n 2, 1) := by decide +kernel
theorem dX3_countSegmentsThere_27 : decode cX3_countSegmentsThere 27 = .ok (.aaload, 1) := by decide +kernel
theorem dX3_countSegmentsThere_28 : decode cX3_countSegmentsThere 28 = .ok (.ifnull 16, 3) := by decide +kernel
theorem dX3_countSegmentsThere_31 : decode cX3_countSegmentsThere 31 = .ok (.iload_n 1, 1) := by decide +kernel
theorem dX3_countSegmentsThere_32 : decode cX3_countSegmentsThere 32 = .ok (.aload_n 0, 1) := by decide +kernel
theorem dX3_countSegmentsThere_33 : decode cX3_countSegmentsThere 33 = .ok (.aload_n 0, 1) := by decide +kernel
theorem dX3_countSegmentsThere_34 : decode cX3_countSegmentsThere 34 = .ok (.getfield 21, 3) := by decide +kernel
theorem dX3_countSegmentsThere_37 : decode cX3_countSegmentsThere 37 = .ok (.iload_n 2, 1) := by decide +kernel
theorem dX3_countSegmentsThere_38 : decode cX3_countSegmentsThere 38 = .ok (.aaload, 1) := by decide +kernel
theorem dX3_countSegmentsThere_39 : decode cX3_countSegmentsThere 39 = .ok (.invokevirtual 206, 3) := by decide +kernel
theorem dX3_countSegmentsThere_42 : decode cX3_countSegmentsThere 42 = .ok (.iadd, 1) := by decide +kernel
theorem dX3_countSegmentsThere_43 : decode cX3_countSegmentsThere 43 = .ok (.istore_n 1, 1) := by decide +kernel
theorem dX3_countSegmentsThere_44 : decode cX3_countSegmentsThere 44 = .ok (.iinc 2 1, 3) := by decide +kernel
theorem dX3_countSegmentsThere_47 : decode cX3_countSegmentsThere 47 = .ok (.goto (-33), 3) := by decide +kernel
theorem dX3_countSegmentsThere_50 : decode cX3_countSegmentsThere 50 = .ok (.iload_n 1, 1) := by decide +kernel
theorem dX3_countSegmentsThere_51 : decode cX3_countSegmentsThere 51 = .ok (.ireturn, 1) := by decide +kernel
theorem dX3_markSegments_0 : decode cX3_markSegments 0 = .ok (.iconst 0, 1) := by decide +kernel
theorem dX3_markSegments_1 : decode cX3_markSegments 1 = .ok (.istore_n 2, 1) := by decide +kernel
theorem dX3_markSegments_2 : decode cX3_markSegments 2 = .ok (.iconst 0, 1) := by decide +kernel
theorem dX3_markSegments_3 : decode cX3_markSegments 3 = .ok (.istore_n 3, 1) := by decide +kernel
theorem dX3_markSegments_4 : decode cX3_markSegments 4 = .ok (.iload_n 3, 1) := by decide +kernel
theorem dX3_markSegments_5 : decode cX3_markSegments 5 = .ok (.aload_n 1, 1) := by decide +kernel
theorem dX3_markSegments_6 : decode cX3_markSegments 6 = .ok (.getfield 131, 3) := by decide +kernel
theorem dX3_markSegments_9 : decode cX3_markSegments 9 = .ok (.arraylength, 1) := by decide +kernel
theorem dX3_markSegments_10 : decode cX3_markSegments 10 = .ok (.if_icmp .ge 41, 3) := by decide +kernel
theorem dX3_markSegments_13 : decode cX3_markSegments 13 = .ok (.aload_n 1, 1) := by decide +kernel
theorem dX3_markSegments_14 : decode cX3_markSegments 14 = .ok (.getfield 131, 3) := by decide +kernel
theorem dX3_markSegments_17 : decode cX3_markSegments 17 = .ok (.iload_n 3, 1) := by decide +kernel
theorem dX3_markSegments_18 : decode cX3_markSegments 18 = .ok (.aaload, 1) := by decide +kernel
theorem dX3_markSegments_19 : decode cX3_markSegments 19 = .ok (.astore 4, 2) := by decide +kernel
theorem dX3_markSegments_21 : decode cX3_markSegments 21 = .ok (.aload 4, 2) := by decide +kernel
theorem dX3_markSegments_23 : decode cX3_markSegments 23 = .ok (.getfield 210, 3) := by decide +kernel
theorem dX3_markSegments_26 : decode cX3_markSegments 26 = .ok (.aload_n 0, 1) := by decide +kernel
theorem dX3_markSegments_27 : decode cX3_markSegments 27 = .ok (.getfield 44, 3) := by decide +kernel
theorem dX3_markSegments_30 : decode cX3_markSegments 30 = .ok (.if_icmp .eq 15, 3) := by decide +kernel
theorem dX3_markSegments_33 : decode cX3_markSegments 33 = .ok (.aload 4, 2) := by decide +kernel
theorem dX3_markSegments_35 : decode cX3_markSegments 35 = .ok (.aload_n 0, 1) := by decide +kernel
theorem dX3_markSegments_36 : decode cX3_markSegments 36 = .ok (.getfield 44, 3) := by decide +kernel
theorem dX3_markSegments_39 : decode cX3_markSegments 39 = .ok (.putfield 210, 3) := by decide +kernel
theorem dX3_markSegments_42 : decode cX3_markSegments 42 = .ok (.iinc 2 1, 3) := by decide +kernel
theorem dX3_markSegments_45 : decode cX3_markSegments 45 = .ok (.iinc 3 1, 3) := by decide +kernel
theorem dX3_markSegments_48 : decode cX3_markSegments 48 = .ok (.goto (-44), 3) := by decide +kernel
theorem dX3_markSegments_51 : decode cX3_markSegments 51 = .ok (.iload_n 2, 1) := by decide +kernel
theorem dX3_markSegments_52 : decode cX3_markSegments 52 = .ok (.ireturn, 1) := by decide +kernel
theorem dX4_init_0 : decode cX4_init 0 = .ok (.aload_n 0, 1) := by decide +kernel
theorem dX4_init_1 : decode cX4_init 1 = .ok (.invokespecial 1, 3) := by decide +kernel
theorem dX4_init_4 : decode cX4_init 4 = .ok (.aload_n 0, 1) := by decide +kernel
theorem dX4_init_5 : decode cX4_init 5 = .ok (.sipush 601, 3) := by decide +kernel
theorem dX4_init_8 : decode cX4_init 8 = .ok (.newarray .int, 2) := by decide +kernel
theorem dX4_init_10 : decode cX4_init 10 = .ok (.putfield 7, 3) := by decide +kernel
theorem dX4_init_13 : decode cX4_init 13 = .ok (.aload_n 0, 1) := by decide +kernel
theorem dX4_init_14 : decode cX4_init 14 = .ok (.sipush 601, 3) := by decide +kernel
theorem dX4_init_17 : decode cX4_init 17 = .ok (.newarray .int, 2) := by decide +kernel
theorem dX4_init_19 : decode cX4_init 19 = .ok (.putfield 13, 3) := by decide +kernel
theorem dX4_init_22 : decode cX4_init 22 = .ok (.aload_n 0, 1) := by decide +kernel
theorem dX4_init_23 : decode cX4_init 23 = .ok (.iconst (-1), 1) := by decide +kernel
theorem dX4_init_24 : decode cX4_init 24 = .ok (.putfield 16, 3) := by decide +kernel
theorem dX4_init_27 : decode cX4_init 27 = .ok (.aload_n 0, 1) := by decide +kernel
theorem dX4_init_28 : decode cX4_init 28 = .ok (.iconst (-1), 1) := by decide +kernel
theorem dX4_init_29 : decode cX4_init 29 = .ok (.putfield 20, 3) := by decide +kernel
theorem dX4_init_32 : decode cX4_init 32 = .ok (.aload_n 0, 1) := by decide +kernel
theorem dX4_init_33 : decode cX4_init 33 = .ok (.sipush 320, 3) := by decide +kernel
theorem dX4_init_36 : decode cX4_init 36 = .ok (.newarray .int, 2) := by decide +kernel
theorem dX4_init_38 : decode cX4_init 38 = .ok (.putfield 23, 3) := by decide +kernel
theorem dX4_init_41 : decode cX4_init 41 = .ok (.aload_n 0, 1) := by decide +kernel
theorem dX4_init_42 : decode cX4_init 42 = .ok (.sipush 5120, 3) := by decide +kernel
theorem dX4_init_45 : decode cX4_init 45 = .ok (.newarray .int, 2) := by decide +kernel
theorem dX4_init_47 : decode cX4_init 47 = .ok (.putfield 26, 3) := by decide +kernel
theorem dX4_init_50 : decode cX4_init 50 = .ok (.aload_n 0, 1) := by decide +kernel
theorem dX4_init_51 : decode cX4_init 51 = .ok (.iconst 1, 1) := by decide +kernel
theorem dX4_init_52 : decode cX4_init 52 = .ok (.putfield 29, 3) := by decide +kernel
theorem dX4_init_55 : decode cX4_init 55 = .ok (.aload_n 0, 1) := by decide +kernel
theorem dX4_init_56 : decode cX4_init 56 = .ok (.sipush 150, 3) := by decide +kernel
theorem dX4_init_59 : decode cX4_init 59 = .ok (.newarray .int, 2) := by decide +kernel
theorem dX4_init_61 : decode cX4_init 61 = .ok (.putfield 32, 3) := by decide +kernel
theorem dX4_init_64 : decode cX4_init 64 = .ok (.aload_n 0, 1) := by decide +kernel
theorem dX4_init_65 : decode cX4_init 65 = .ok (.sipush 150, 3) := by decide +kernel
theorem dX4_init_68 : decode cX4_init 68 = .ok (.newarray .int, 2) := by decide +kernel
theorem dX4_init_70 : decode cX4_init 70 = .ok (.putfield 35, 3) := by decide +kernel
theorem dX4_init_73 : decode cX4_init 73 = .ok (.aload_n 0, 1) := by decide +kernel
theorem dX4_init_74 : decode cX4_init 74 = .ok (.sipush 600, 3) := by decide +kernel
theorem dX4_init_77 : decode cX4_init 77 = .ok (.newarray .int, 2) := by decide +kernel
theorem dX4_init_79 : decode cX4_init 79 = .ok (.putfield 38, 3) := by decide +kernel
theorem dX4_init_82 : decode cX4_init 82 = .ok (.aload_n 0, 1) := by decide +kernel
theorem dX4_init_83 : decode cX4_init 83 = .ok (.sipush 150, 3) := by decide +kernel
theorem dX4_init_86 : decode cX4_init 86 = .ok (.newarray .int, 2) := by decide +kernel
theorem dX4_init_88 : decode cX4_init 88 = .ok (.putfield 41, 3) := by decide +kernel
theorem dX4_init_91 : decode cX4_init 91 = .ok (.return_, 1) := by decide +kernel
theorem dX4_in_0 : decode cX4_in 0 = .ok (.iload_n 0, 1) := by decide +kernel
theorem dX4_in_1 : decode cX4_in 1 = .ok (.iload_n 1, 1) := by decide +kernel
theorem dX4_in_2 : decode cX4_in 2 = .ok (.if_icmp .lt 12, 3) := by decide +kernel
theorem dX4_in_5 : decode cX4_in 5 = .ok (.iload_n 0, 1) := by decide +kernel
theorem dX4_in_6 : decode cX4_in 6 = .ok (.iload_n 2, 1) := by decide +kernel
theorem dX4_in_7 : decode cX4_in 7 = .ok (.if_icmp .gt 7, 3) := by decide +kernel
theorem dX4_in_10 : decode cX4_in 10 = .ok (.iconst 1, 1) := by decide +kernel
theorem dX4_in_11 : decode cX4_in 11 = .ok (.goto 4, 3) := by decide +kernel
theorem dX4_in_14 : decode cX4_in 14 = .ok (.iconst 0, 1) := by decide +kernel
theorem dX4_in_15 : decode cX4_in 15 = .ok (.ireturn, 1) := by decide +kernel
theorem dX4_isHeld_0 : decode cX4_isHeld 0 = .ok (.iload_n 1, 1) := by decide +kernel
theorem dX4_isHeld_1 : decode cX4_isHeld 1 = .ok (.iconst 0, 1) := by decide +kernel
theorem dX4_isHeld_2 : decode cX4_isHeld 2 = .ok (.aload_n 0, 1) := by decide +kernel
theorem dX4_isHeld_3 : decode cX4_isHeld 3 = .ok (.getfield 29, 3) := by decide +kernel
theorem dX4_isHeld_6 : decode cX4_isHeld 6 = .ok (.iconst 1, 1) := by decide +kernel
theorem dX4_isHeld_7 : decode cX4_isHeld 7 = .ok (.isub, 1) := by decide +kernel
theorem dX4_isHeld_8 : decode cX4_isHeld 8 = .ok (.invokestatic 44, 3) := by decide +kernel
theorem dX4_isHeld_11 : decode cX4_isHeld 11 = .ok (.ifCond .eq 32, 3) := by decide +kernel
theorem dX4_isHeld_14 : decode cX4_isHeld 14 = .ok (.iload_n 1, 1) := by decide +kernel
theorem dX4_isHeld_15 : decode cX4_isHeld 15 = .ok (.aload_n 0, 1) := by decide +kernel
theorem dX4_isHeld_16 : decode cX4_isHeld 16 = .ok (.getfield 48, 3) := by decide +kernel
theorem dX4_isHeld_19 : decode cX4_isHeld 19 = .ok (.if_icmp .eq 20, 3) := by decide +kernel
theorem dX4_isHeld_22 : decode cX4_isHeld 22 = .ok (.iload_n 1, 1) := by decide +kernel
theorem dX4_isHeld_23 : decode cX4_isHeld 23 = .ok (.aload_n 0, 1) := by decide +kernel
theorem dX4_isHeld_24 : decode cX4_isHeld 24 = .ok (.getfield 51, 3) := by decide +kernel
theorem dX4_isHeld_27 : decode cX4_isHeld 27 = .ok (.if_icmp .eq 12, 3) := by decide +kernel
theorem dX4_isHeld_30 : decode cX4_isHeld 30 = .ok (.aload_n 0, 1) := by decide +kernel
theorem dX4_isHeld_31 : decode cX4_isHeld 31 = .ok (.getfield 41, 3) := by decide +kernel
theorem dX4_isHeld_34 : decode cX4_isHeld 34 = .ok (.iload_n 1, 1) := by decide +kernel
theorem dX4_isHeld_35 : decode cX4_isHeld 35 = .ok (.iaload, 1) := by decide +kernel
theorem dX4_isHeld_36 : decode cX4_isHeld 36 = .ok (.ifCond .le 7, 3) := by decide +kernel
theorem dX4_isHeld_39 : decode cX4_isHeld 39 = .ok (.iconst 1, 1) := by decide +kernel
theorem dX4_isHeld_40 : decode cX4_isHeld 40 = .ok (.goto 4, 3) := by decide +kernel
theorem dX4_isHeld_43 : decode cX4_isHeld 43 = .ok (.iconst 0, 1) := by decide +kernel
theorem dX4_isHeld_44 : decode cX4_isHeld 44 = .ok (.ireturn, 1) := by decide +kernel
theorem dX4_change_0 : decode cX4_change 0 = .ok (.iload_n 2, 1) := by decide +kernel
theorem dX4_change_1 : decode cX4_change 1 = .ok (.istore_n 3, 1) := by decide +kernel
theorem dX4_change_2 : decode cX4_change 2 = .ok (.iload_n 3, 1) := by decide +kernel
theorem dX4_change_3 : decode cX4_change 3 = .ok (.ifCond .le 21, 3) := by decide +kernel
theorem dX4_change_6 : decode cX4_change 6 = .ok (.aload_n 0, 1) := by decide +kernel
theorem dX4_change_7 : decode cX4_change 7 = .ok (.getfield 7, 3) := by decide +kernel
theorem dX4_change_10 : decode cX4_change 10 = .ok (.iload_n 3, 1) := by decide +kernel
theorem dX4_change_11 : decode cX4_change 11 = .ok (.iaload, 1) := by decide +kernel
theorem dX4_change_12 : decode cX4_change 12 = .ok (.iload_n 1, 1) := by decide +kernel
theorem dX4_change_13 : decode cX4_change 13 = .ok (.if_icmp .ne 5, 3) := by decide +kernel
theorem dX4_change_16 : decode cX4_change 16 = .ok (.iload_n 3, 1) := by decide +kernel
theorem dX4_change_17 : decode cX4_change 17 = .ok (.ireturn, 1) := by decide +kernel
theorem dX4_change_18 : decode cX4_change 18 = .ok (.iinc 3 (-1), 3) := by decide +kernel
theorem dX4_change_21 : decode cX4_change 21 = .ok (.goto (-19), 3) := by decide +kernel
theorem dX4_change_24 : decode cX4_change 24 = .ok (.iconst 0, 1) := by decide +kernel
theorem dX4_change_25 : decode cX4_change 25 = .ok (.ireturn, 1) := by decide +kernel
theorem dX4_written_0 : decode cX4_written 0 = .ok (.aload_n 0, 1) := by decide +kernel
theorem dX4_written_1 : decode cX4_written 1 = .ok (.iload_n 1, 1) := by decide +kernel
theorem dX4_written_2 : decode cX4_written 2 = .ok (.iload_n 2, 1) := by decide +kernel
theorem dX4_written_3 : decode cX4_written 3 = .ok (.invokevirtual 54, 3) := by decide +kernel
theorem dX4_written_6 : decode cX4_written 6 = .ok (.istore_n 3, 1) := by decide +kernel
theorem dX4_written_7 : decode cX4_written 7 = .ok (.iload_n 3, 1) := by decide +kernel
theorem dX4_written_8 : decode cX4_written 8 = .ok (.ifCond .le 16, 3) := by decide +kernel
theorem dX4_written_11 : decode cX4_written 11 = .ok (.aload_n 0, 1) := by decide +kernel
theorem dX4_written_12 : decode cX4_written 12 = .ok (.getfield 13, 3) := by decide +kernel
theorem dX4_written_15 : decode cX4_written 15 = .ok (.iload_n 3, 1) := by decide +kernel
theorem dX4_written_16 : decode cX4_written 16 = .ok (.iaload, 1) := by decide +kernel
theorem dX4_written_17 : decode cX4_written 17 = .ok (.ifCond .le 7, 3) := by decide +kernel
theorem dX4_written_20 : decode cX4_written 20 = .ok (.iload_n 3, 1) := by decide +kernel
theorem dX4_written_21 : decode cX4_written 21 = .ok (.goto 4, 3) := by decide +kernel
theorem dX4_written_24 : decode cX4_written 24 = .ok (.iconst 0, 1) := by decide +kernel
theorem dX4_written_25 : decode cX4_written 25 = .ok (.ireturn, 1) := by decide +kernel
theorem dX4_add_0 : decode cX4_add 0 = .ok (.aload_n 0, 1) := by decide +kernel
theorem dX4_add_1 : decode cX4_add 1 = .ok (.dup, 1) := by decide +kernel
theorem dX4_add_2 : decode cX4_add 2 = .ok (.getfield 58, 3) := by decide +kernel
theorem dX4_add_5 : decode cX4_add 5 = .ok (.iconst 1, 1) := by decide +kernel
theorem dX4_add_6 : decode cX4_add 6 = .ok (.iadd, 1) := by decide +kernel
theorem dX4_add_7 : decode cX4_add 7 = .ok (.putfield 58, 3) := by decide +kernel
theorem dX4_add_10 : decode cX4_add 10 = .ok (.aload_n 0, 1) := by decide +kernel
theorem dX4_add_11 : decode cX4_add 11 = .ok (.getfield 7, 3) := by decide +kernel
theorem dX4_add_14 : decode cX4_add 14 = .ok (.aload_n 0, 1) := by decide +kernel
theorem dX4_add_15 : decode cX4_add 15 = .ok (.getfield 58, 3) := by decide +kernel
theorem dX4_add_18 : decode cX4_add 18 = .ok (.iload_n 1, 1) := by decide +kernel
theorem dX4_add_19 : decode cX4_add 19 = .ok (.iastore, 1) := by decide +kernel
theorem dX4_add_20 : decode cX4_add 20 = .ok (.aload_n 0, 1) := by decide +kernel
theorem dX4_add_21 : decode cX4_add 21 = .ok (.getfield 13, 3) := by decide +kernel
theorem dX4_add_24 : decode cX4_add 24 = .ok (.aload_n 0, 1) := by decide +kernel
theorem dX4_add_25 : decode cX4_add 25 = .ok (.getfield 58, 3) := by decide +kernel
theorem dX4_add_28 : decode cX4_add 28 = .ok (.iload_n 2, 1) := by decide +kernel
theorem dX4_add_29 : decode cX4_add 29 = .ok (.iastore, 1) := by decide +kernel
theorem dX4_add_30 : decode cX4_add 30 = .ok (.return_, 1) := by decide +kernel
theorem dX4_told_0 : decode cX4_told 0 = .ok (.aload_n 0, 1) := by decide +kernel
theorem dX4_told_1 : decode cX4_told 1 = .ok (.iload_n 1, 1) := by decide +kernel
theorem dX4_told_2 : decode cX4_told 2 = .ok (.aload_n 0, 1) := by decide +kernel
theorem dX4_told_3 : decode cX4_told 3 = .ok (.getfield 58, 3) := by decide +kernel
theorem dX4_told_6 : decode cX4_told 6 = .ok (.invokevirtual 61, 3) := by decide +kernel
theorem dX4_told_9 : decode cX4_told 9 = .ok (.istore 4, 2) := by decide +kernel
theorem dX4_told_11 : decode cX4_told 11 = .ok (.iload_n 3, 1) := by decide +kernel
theorem dX4_told_12 : decode cX4_told 12 = .ok (.iconst (-1), 1) := by decide +kernel
theorem dX4_told_13 : decode cX4_told 13 = .ok (.if_icmp .eq 23, 3) := by decide +kernel
theorem dX4_told_16 : decode cX4_told 16 = .ok (.iload_n 3, 1) := by decide +kernel
theorem dX4_told_17 : decode cX4_told 17 = .ok (.iload 4, 2) := by decide +kernel
theorem dX4_told_19 : decode cX4_told 19 = .ok (.if_icmp .eq 17, 3) := by decide +kernel
theorem dX4_told_22 : decode cX4_told 22 = .ok (.aload_n 0, 1) := by decide +kernel
theorem dX4_told_23 : decode cX4_told 23 = .ok (.iload_n 3, 1) := by decide +kernel
theorem dX4_told_24 : decode cX4_told 24 = .ok (.putfield 16, 3) := by decide +kernel
theorem dX4_told_27 : decode cX4_told 27 = .ok (.aload_n 0, 1) := by decide +kernel
theorem dX4_told_28 : decode cX4_told 28 = .ok (.iload 4, 2) := by decide +kernel
theorem dX4_told_30 : decode cX4_told 30 = .ok (.putfield 20, 3) := by decide +kernel
theorem dX4_told_33 : decode cX4_told 33 = .ok (.bipush (-4), 2) := by decide +kernel
theorem dX4_told_35 : decode cX4_told 35 = .ok (.ireturn, 1) := by decide +kernel
theorem dX4_told_36 : decode cX4_told 36 = .ok (.aload_n 0, 1) := by decide +kernel
theorem dX4_told_37 : decode cX4_told 37 = .ok (.getfield 58, 3) := by decide +kernel
theorem dX4_told_40 : decode cX4_told 40 = .ok (.sipush 600, 3) := by decide +kernel
theorem dX4_told_43 : decode cX4_told 43 = .ok (.if_icmp .ne 6, 3) := by decide +kernel
theorem dX4_told_46 : decode cX4_told 46 = .ok (.bipush (-5), 2) := by decide +kernel
theorem dX4_told_48 : decode cX4_told 48 = .ok (.ireturn, 1) := by decide +kernel
theorem dX4_told_49 : decode cX4_told 49 = .ok (.aload_n 0, 1) := by decide +kernel
theorem dX4_told_50 : decode cX4_told 50 = .ok (.iload_n 1, 1) := by decide +kernel
theorem dX4_told_51 : decode cX4_told 51 = .ok (.iload_n 2, 1) := by decide +kernel
theorem dX4_told_52 : decode cX4_told 52 = .ok (.invokevirtual 64, 3) := by decide +kernel
theorem dX4_told_55 : decode cX4_told 55 = .ok (.aload_n 0, 1) := by decide +kernel
theorem dX4_told_56 : decode cX4_told 56 = .ok (.getfield 58, 3) := by decide +kernel
theorem dX4_told_59 : decode cX4_told 59 = .ok (.ireturn, 1) := by decide +kernel
theorem dX4_write_0 : decode cX4_write 0 = .ok (.iload_n 1, 1) := by decide +kernel
theorem dX4_write_1 : decode cX4_write 1 = .ok (.iconst 0, 1) := by decide +kernel
theorem dX4_write_2 : decode cX4_write 2 = .ok (.bipush 15, 2) := by decide +kernel
theorem dX4_write_4 : decode cX4_write 4 = .ok (.invokestatic 44, 3) := by decide +kernel
theorem dX4_write_7 : decode cX4_write 7 = .ok (.ifCond .eq 19, 3) := by decide +kernel
theorem dX4_write_10 : decode cX4_write 10 = .ok (.iload_n 2, 1) := by decide +kernel
theorem dX4_write_11 : decode cX4_write 11 = .ok (.iconst 1, 1) := by decide +kernel
theorem dX4_write_12 : decode cX4_write 12 = .ok (.sipush 255, 3) := by decide +kernel
theorem dX4_write_15 : decode cX4_write 15 = .ok (.invokestatic 44, 3) := by decide +kernel
theorem dX4_write_18 : decode cX4_write 18 = .ok (.ifCond .eq 8, 3) := by decide +kernel
theorem dX4_write_21 : decode cX4_write 21 = .ok (.iload_n 3, 1) := by decide +kernel
theorem dX4_write_22 : decode cX4_write 22 = .ok (.iconst (-1), 1) := by decide +kernel
theorem dX4_write_23 : decode cX4_write 23 = .ok (.if_icmp .ge 6, 3) := by decide +kernel
theorem dX4_write_26 : decode cX4_write 26 = .ok (.bipush (-3), 2) := by decide +kernel
theorem dX4_write_28 : decode cX4_write 28 = .ok (.ireturn, 1) := by decide +kernel
theorem dX4_write_29 : decode cX4_write 29 = .ok (.aload_n 0, 1) := by decide +kernel
theorem dX4_write_30 : decode cX4_write 30 = .ok (.iload_n 1, 1) := by decide +kernel
theorem dX4_write_31 : decode cX4_write 31 = .ok (.iload_n 2, 1) := by decide +kernel
theorem dX4_write_32 : decode cX4_write 32 = .ok (.iload_n 3, 1) := by decide +kernel
theorem dX4_write_33 : decode cX4_write 33 = .ok (.invokevirtual 68, 3) := by decide +kernel
theorem dX4_write_36 : decode cX4_write 36 = .ok (.ireturn, 1) := by decide +kernel
theorem dX4_remove_0 : decode cX4_remove 0 = .ok (.iload_n 1, 1) := by decide +kernel
theorem dX4_remove_1 : decode cX4_remove 1 = .ok (.iconst 0, 1) := by decide +kernel
theorem dX4_remove_2 : decode cX4_remove 2 = .ok (.bipush 15, 2) := by decide +kernel
theorem dX4_remove_4 : decode cX4_remove 4 = .ok (.invokestatic 44, 3) := by decide +kernel
theorem dX4_remove_7 : decode cX4_remove 7 = .ok (.ifCond .eq 8, 3) := by decide +kernel
theorem dX4_remove_10 : decode cX4_remove 10 = .ok (.iload_n 2, 1) := by decide +kernel
theorem dX4_remove_11 : decode cX4_remove 11 = .ok (.iconst (-1), 1) := by decide +kernel
theorem dX4_remove_12 : decode cX4_remove 12 = .ok (.if_icmp .ge 6, 3) := by decide +kernel
theorem dX4_remove_15 : decode cX4_remove 15 = .ok (.bipush (-3), 2) := by decide +kernel
theorem dX4_remove_17 : decode cX4_remove 17 = .ok (.ireturn, 1) := by decide +kernel
theorem dX4_remove_18 : decode cX4_remove 18 = .ok (.aload_n 0, 1) := by decide +kernel
theorem dX4_remove_19 : decode cX4_remove 19 = .ok (.iload_n 1, 1) := by decide +kernel
theorem dX4_remove_20 : decode cX4_remove 20 = .ok (.iconst 0, 1) := by decide +kernel
theorem dX4_remove_21 : decode cX4_remove 21 = .ok (.iload_n 2, 1) := by decide +kernel
theorem dX4_remove_22 : decode cX4_remove 22 = .ok (.invokevirtual 68, 3) := by decide +kernel
theorem dX4_remove_25 : decode cX4_remove 25 = .ok (.ireturn, 1) := by decide +kernel
theorem dX4_has_0 : decode cX4_has 0 = .ok (.aload_n 0, 1) := by decide +kernel
theorem dX4_has_1 : decode cX4_has 1 = .ok (.iload_n 2, 1) := by decide +kernel
theorem dX4_has_2 : decode cX4_has 2 = .ok (.aload_n 0, 1) := by decide +kernel
theorem dX4_has_3 : decode cX4_has 3 = .ok (.getfield 32, 3) := by decide +kernel
theorem dX4_has_6 : decode cX4_has 6 = .ok (.iload_n 1, 1) := by decide +kernel
theorem dX4_has_7 : decode cX4_has 7 = .ok (.iaload, 1) := by decide +kernel
theorem dX4_has_8 : decode cX4_has 8 = .ok (.invokevirtual 61, 3) := by decide +kernel
theorem dX4_has_11 : decode cX4_has 11 = .ok (.istore 4, 2) := by decide +kernel
theorem dX4_has_13 : decode cX4_has 13 = .ok (.iload 4, 2) := by decide +kernel
theorem dX4_has_15 : decode cX4_has 15 = .ok (.ifCond .le 20, 3) := by decide +kernel
theorem dX4_has_18 : decode cX4_has 18 = .ok (.aload_n 0, 1) := by decide +kernel
theorem dX4_has_19 : decode cX4_has 19 = .ok (.getfield 13, 3) := by decide +kernel
theorem dX4_has_22 : decode cX4_has 22 = .ok (.iload 4, 2) := by decide +kernel
theorem dX4_has_24 : decode cX4_has 24 = .ok (.iaload, 1) := by decide +kernel
theorem dX4_has_25 : decode cX4_has 25 = .ok (.iload_n 3, 1) := by decide +kernel
theorem dX4_has_26 : decode cX4_has 26 = .ok (.iand, 1) := by decide +kernel
theorem dX4_has_27 : decode cX4_has 27 = .ok (.iload_n 3, 1) := by decide +kernel
theorem dX4_has_28 : decode cX4_has 28 = .ok (.if_icmp .ne 7, 3) := by decide +kernel
theorem dX4_has_31 : decode cX4_has 31 = .ok (.iconst 1, 1) := by decide +kernel
theorem dX4_has_32 : decode cX4_has 32 = .ok (.goto 4, 3) := by decide +kernel
theorem dX4_has_35 : decode cX4_has 35 = .ok (.iconst 0, 1) := by decide +kernel
theorem dX4_has_36 : decode cX4_has 36 = .ok (.ireturn, 1) := by decide +kernel
theorem dX4_drop_0 : decode cX4_drop 0 = .ok (.aload_n 0, 1) := by decide +kernel
theorem dX4_drop_1 : decode cX4_drop 1 = .ok (.iload_n 1, 1) := by decide +kernel
theorem dX4_drop_2 : decode cX4_drop 2 = .ok (.invokevirtual 72, 3) := by decide +kernel
theorem dX4_drop_5 : decode cX4_drop 5 = .ok (.ifCond .ne 6, 3) := by decide +kernel
theorem dX4_drop_8 : decode cX4_drop 8 = .ok (.bipush (-2), 2) := by decide +kernel
theorem dX4_drop_10 : decode cX4_drop 10 = .ok (.ireturn, 1) := by decide +kernel
theorem dX4_drop_11 : decode cX4_drop 11 = .ok (.iload_n 2, 1) := by decide +kernel
theorem dX4_drop_12 : decode cX4_drop 12 = .ok (.iconst 0, 1) := by decide +kernel
theorem dX4_drop_13 : decode cX4_drop 13 = .ok (.sipush 255, 3) := by decide +kernel
theorem dX4_drop_16 : decode cX4_drop 16 = .ok (.invokestatic 44, 3) := by decide +kernel
theorem dX4_drop_19 : decode cX4_drop 19 = .ok (.ifCond .ne 6, 3) := by decide +kernel
theorem dX4_drop_22 : decode cX4_drop 22 = .ok (.bipush (-3), 2) := by decide +kernel
theorem dX4_drop_24 : decode cX4_drop 24 = .ok (.ireturn, 1) := by decide +kernel
theorem dX4_drop_25 : decode cX4_drop 25 = .ok (.iconst 0, 1) := by decide +kernel
theorem dX4_drop_26 : decode cX4_drop 26 = .ok (.istore_n 3, 1) := by decide +kernel
theorem dX4_drop_27 : decode cX4_drop 27 = .ok (.iconst 0, 1) := by decide +kernel
theorem dX4_drop_28 : decode cX4_drop 28 = .ok (.istore 4, 2) := by decide +kernel
theorem dX4_drop_30 : decode cX4_drop 30 = .ok (.iconst 0, 1) := by decide +kernel
theorem dX4_drop_31 : decode cX4_drop 31 = .ok (.istore 5, 2) := by decide +kernel
theorem dX4_drop_33 : decode cX4_drop 33 = .ok (.iload 5, 2) := by decide +kernel
theorem dX4_drop_35 : decode cX4_drop 35 = .ok (.bipush 16, 2) := by decide +kernel
theorem dX4_drop_37 : decode cX4_drop 37 = .ok (.if_icmp .ge 80, 3) := by decide +kernel
theorem dX4_drop_40 : decode cX4_drop 40 = .ok (.aload_n 0, 1) := by decide +kernel
theorem dX4_drop_41 : decode cX4_drop 41 = .ok (.iload_n 1, 1) := by decide +kernel
theorem dX4_drop_42 : decode cX4_drop 42 = .ok (.iload 5, 2) := by decide +kernel
theorem dX4_drop_44 : decode cX4_drop 44 = .ok (.iload_n 2, 1) := by decide +kernel
theorem dX4_drop_45 : decode cX4_drop 45 = .ok (.invokevirtual 76, 3) := by decide +kernel
theorem dX4_drop_48 : decode cX4_drop 48 = .ok (.ifCond .eq 63, 3) := by decide +kernel
theorem dX4_drop_51 : decode cX4_drop 51 = .ok (.aload_n 0, 1) := by decide +kernel
theorem dX4_drop_52 : decode cX4_drop 52 = .ok (.iload 5, 2) := by decide +kernel
theorem dX4_drop_54 : decode cX4_drop 54 = .ok (.aload_n 0, 1) := by decide +kernel
theorem dX4_drop_55 : decode cX4_drop 55 = .ok (.getfield 58, 3) := by decide +kernel
theorem dX4_drop_58 : decode cX4_drop 58 = .ok (.invokevirtual 54, 3) := by decide +kernel
theorem dX4_drop_61 : decode cX4_drop 61 = .ok (.aload_n 0, 1) := by decide +kernel
theorem dX4_drop_62 : decode cX4_drop 62 = .ok (.iload 5, 2) := by decide +kernel
theorem dX4_drop_64 : decode cX4_drop 64 = .ok (.aload_n 0, 1) := by decide +kernel
theorem dX4_drop_65 : decode cX4_drop 65 = .ok (.getfield 32, 3) := by decide +kernel
theorem dX4_drop_68 : decode cX4_drop 68 = .ok (.iload_n 1, 1) := by decide +kernel
theorem dX4_drop_69 : decode cX4_drop 69 = .ok (.iaload, 1) := by decide +kernel
theorem dX4_drop_70 : decode cX4_drop 70 = .ok (.invokevirtual 61, 3) := by decide +kernel
theorem dX4_drop_73 : decode cX4_drop 73 = .ok (.if_icmp .ne 7, 3) := by decide +kernel
theorem dX4_drop_76 : decode cX4_drop 76 = .ok (.iconst 1, 1) := by decide +kernel
theorem dX4_drop_77 : decode cX4_drop 77 = .ok (.goto 4, 3) := by decide +kernel
theorem dX4_drop_80 : decode cX4_drop 80 = .ok (.iconst 0, 1) := by decide +kernel
theorem dX4_drop_81 : decode cX4_drop 81 = .ok (.istore 6, 2) := by decide +kernel
theorem dX4_drop_83 : decode cX4_drop 83 = .ok (.iload_n 3, 1) := by decide +kernel
theorem dX4_drop_84 : decode cX4_drop 84 = .ok (.iload 6, 2) := by decide +kernel
theorem dX4_drop_86 : decode cX4_drop 86 = .ok (.ifCond .eq 7, 3) := by decide +kernel
theorem dX4_drop_89 : decode cX4_drop 89 = .ok (.iconst 1, 1) := by decide +kernel
theorem dX4_drop_90 : decode cX4_drop 90 = .ok (.goto 4, 3) := by decide +kernel
theorem dX4_drop_93 : decode cX4_drop 93 = .ok (.iconst 0, 1) := by decide +kernel
theorem dX4_drop_94 : decode cX4_drop 94 = .ok (.iadd, 1) := by decide +kernel
theorem dX4_drop_95 : decode cX4_drop 95 = .ok (.istore_n 3, 1) := by decide +kernel
theorem dX4_drop_96 : decode cX4_drop 96 = .ok (.iload 4, 2) := by decide +kernel
theorem dX4_drop_98 : decode cX4_drop 98 = .ok (.iload 6, 2) := by decide +kernel
theorem dX4_drop_100 : decode cX4_drop 100 = .ok (.ifCond .eq 7, 3) := by decide +kernel
theorem dX4_drop_103 : decode cX4_drop 103 = .ok (.iconst 0, 1) := by decide +kernel
theorem dX4_drop_104 : decode cX4_drop 104 = .ok (.goto 4, 3) := by decide +kernel
theorem dX4_drop_107 : decode cX4_drop 107 = .ok (.iconst 1, 1) := by decide +kernel
theorem dX4_drop_108 : decode cX4_drop 108 = .ok (.iadd, 1) := by decide +kernel
theorem dX4_drop_109 : decode cX4_drop 109 = .ok (.istore 4, 2) := by decide +kernel
theorem dX4_drop_111 : decode cX4_drop 111 = .ok (.iinc 5 1, 3) := by decide +kernel
theorem dX4_drop_114 : decode cX4_drop 114 = .ok (.goto (-81), 3) := by decide +kernel
theorem dX4_drop_117 : decode cX4_drop 117 = .ok (.aload_n 0, 1) := by decide +kernel
theorem dX4_drop_118 : decode cX4_drop 118 = .ok (.getfield 58, 3) := by decide +kernel
theorem dX4_drop_121 : decode cX4_drop 121 = .ok (.iload_n 3, 1) := by decide +kernel
theorem dX4_drop_122 : decode cX4_drop 122 = .ok (.iadd, 1) := by decide +kernel
theorem dX4_drop_123 : decode cX4_drop 123 = .ok (.sipush 600, 3) := by decide +kernel
theorem dX4_drop_126 : decode cX4_drop 126 = .ok (.if_icmp .le 6, 3) := by decide +kernel
theorem dX4_drop_129 : decode cX4_drop 129 = .ok (.bipush (-5), 2) := by decide +kernel
theorem dX4_drop_131 : decode cX4_drop 131 = .ok (.ireturn, 1) := by decide +kernel
theorem dX4_drop_132 : decode cX4_drop 132 = .ok (.aload_n 0, 1) := by decide +kernel
theorem dX4_drop_133 : decode cX4_drop 133 = .ok (.getfield 58, 3) := by decide +kernel
theorem dX4_drop_136 : decode cX4_drop 136 = .ok (.istore 5, 2) := by decide +kernel
theorem dX4_drop_138 : decode cX4_drop 138 = .ok (.iconst 0, 1) := by decide +kernel
theorem dX4_drop_139 : decode cX4_drop 139 = .ok (.istore 6, 2) := by decide +kernel
theorem dX4_drop_141 : decode cX4_drop 141 = .ok (.iload 6, 2) := by decide +kernel
theorem dX4_drop_143 : decode cX4_drop 143 = .ok (.bipush 16, 2) := by decide +kernel
theorem dX4_drop_145 : decode cX4_drop 145 = .ok (.if_icmp .ge 50, 3) := by decide +kernel
theorem dX4_drop_148 : decode cX4_drop 148 = .ok (.aload_n 0, 1) := by decide +kernel
theorem dX4_drop_149 : decode cX4_drop 149 = .ok (.iload_n 1, 1) := by decide +kernel
theorem dX4_drop_150 : decode cX4_drop 150 = .ok (.iload 6, 2) := by decide +kernel
theorem dX4_drop_152 : decode cX4_drop 152 = .ok (.iload_n 2, 1) := by decide +kernel
theorem dX4_drop_153 : decode cX4_drop 153 = .ok (.invokevirtual 76, 3) := by decide +kernel
theorem dX4_drop_156 : decode cX4_drop 156 = .ok (.ifCond .eq 33, 3) := by decide +kernel
theorem dX4_drop_159 : decode cX4_drop 159 = .ok (.aload_n 0, 1) := by decide +kernel
theorem dX4_drop_160 : decode cX4_drop 160 = .ok (.iload 6, 2) := by decide +kernel
theorem dX4_drop_162 : decode cX4_drop 162 = .ok (.iload 5, 2) := by decide +kernel
theorem dX4_drop_164 : decode cX4_drop 164 = .ok (.invokevirtual 54, 3) := by decide +kernel
theorem dX4_drop_167 : decode cX4_drop 167 = .ok (.aload_n 0, 1) := by decide +kernel
theorem dX4_drop_168 : decode cX4_drop 168 = .ok (.iload 6, 2) := by decide +kernel
theorem dX4_drop_170 : decode cX4_drop 170 = .ok (.aload_n 0, 1) := by decide +kernel
theorem dX4_drop_171 : decode cX4_drop 171 = .ok (.getfield 32, 3) := by decide +kernel
theorem dX4_drop_174 : decode cX4_drop 174 = .ok (.iload_n 1, 1) := by decide +kernel
theorem dX4_drop_175 : decode cX4_drop 175 = .ok (.iaload, 1) := by decide +kernel
theorem dX4_drop_176 : decode cX4_drop 176 = .ok (.invokevirtual 61, 3) := by decide +kernel
theorem dX4_drop_179 : decode cX4_drop 179 = .ok (.if_icmp .ne 10, 3) := by decide +kernel
theorem dX4_drop_182 : decode cX4_drop 182 = .ok (.aload_n 0, 1) := by decide +kernel
theorem dX4_drop_183 : decode cX4_drop 183 = .ok (.iload 6, 2) := by decide +kernel
theorem dX4_drop_185 : decode cX4_drop 185 = .ok (.iconst 0, 1) := by decide +kernel
theorem dX4_drop_186 : decode cX4_drop 186 = .ok (.invokevirtual 64, 3) := by decide +kernel
theorem dX4_drop_189 : decode cX4_drop 189 = .ok (.iinc 6 1, 3) := by decide +kernel
theorem dX4_drop_192 : decode cX4_drop 192 = .ok (.goto (-51), 3) := by decide +kernel
theorem dX4_drop_195 : decode cX4_drop 195 = .ok (.aload_n 0, 1) := by decide +kernel
theorem dX4_drop_196 : decode cX4_drop 196 = .ok (.iload 4, 2) := by decide +kernel
theorem dX4_drop_198 : decode cX4_drop 198 = .ok (.putfield 79, 3) := by decide +kernel
theorem dX4_drop_201 : decode cX4_drop 201 = .ok (.iload_n 3, 1) := by decide +kernel
theorem dX4_drop_202 : decode cX4_drop 202 = .ok (.ireturn, 1) := by decide +kernel
theorem dX4_conflict_0 : decode cX4_conflict 0 = .ok (.iload_n 1, 1) := by decide +kernel
theorem dX4_conflict_1 : decode cX4_conflict 1 = .ok (.ifCond .ne 10, 3) := by decide +kernel
theorem dX4_conflict_4 : decode cX4_conflict 4 = .ok (.aload_n 0, 1) := by decide +kernel
theorem dX4_conflict_5 : decode cX4_conflict 5 = .ok (.getfield 79, 3) := by decide +kernel
theorem dX4_conflict_8 : decode cX4_conflict 8 = .ok (.goto 29, 3) := by decide +kernel
theorem dX4_conflict_11 : decode cX4_conflict 11 = .ok (.iload_n 1, 1) := by decide +kernel
theorem dX4_conflict_12 : decode cX4_conflict 12 = .ok (.iconst 1, 1) := by decide +kernel
theorem dX4_conflict_13 : decode cX4_conflict 13 = .ok (.if_icmp .ne 10, 3) := by decide +kernel
theorem dX4_conflict_16 : decode cX4_conflict 16 = .ok (.aload_n 0, 1) := by decide +kernel
theorem dX4_conflict_17 : decode cX4_conflict 17 = .ok (.getfield 16, 3) := by decide +kernel
theorem dX4_conflict_20 : decode cX4_conflict 20 = .ok (.goto 17, 3) := by decide +kernel
theorem dX4_conflict_23 : decode cX4_conflict 23 = .ok (.iload_n 1, 1) := by decide +kernel
theorem dX4_conflict_24 : decode cX4_conflict 24 = .ok (.iconst 2, 1) := by decide +kernel
theorem dX4_conflict_25 : decode cX4_conflict 25 = .ok (.if_icmp .ne 10, 3) := by decide +kernel
theorem dX4_conflict_28 : decode cX4_conflict 28 = .ok (.aload_n 0, 1) := by decide +kernel
theorem dX4_conflict_29 : decode cX4_conflict 29 = .ok (.getfield 20, 3) := by decide +kernel
theorem dX4_conflict_32 : decode cX4_conflict 32 = .ok (.goto 5, 3) := by decide +kernel
theorem dX4_conflict_35 : decode cX4_conflict 35 = .ok (.bipush (-3), 2) := by decide +kernel
theorem dX4_conflict_37 : decode cX4_conflict 37 = .ok (.ireturn, 1) := by decide +kernel
theorem dX4_live_0 : decode cX4_live 0 = .ok (.iconst 0, 1) := by decide +kernel
theorem dX4_live_1 : decode cX4_live 1 = .ok (.istore_n 3, 1) := by decide +kernel
theorem dX4_live_2 : decode cX4_live 2 = .ok (.iconst 0, 1) := by decide +kernel
theorem dX4_live_3 : decode cX4_live 3 = .ok (.istore 4, 2) := by decide +kernel
theorem dX4_live_5 : decode cX4_live 5 = .ok (.iload 4, 2) := by decide +kernel
theorem dX4_live_7 : decode cX4_live 7 = .ok (.aload_n 0, 1) := by decide +kernel
theorem dX4_live_8 : decode cX4_live 8 = .ok (.getfield 23, 3) := by decide +kernel
theorem dX4_live_11 : decode cX4_live 11 = .ok (.iload_n 1, 1) := by decide +kernel
theorem dX4_live_12 : decode cX4_live 12 = .ok (.iaload, 1) := by decide +kernel
theorem dX4_live_13 : decode cX4_live 13 = .ok (.if_icmp .ge 48, 3) := by decide +kernel
theorem dX4_live_16 : decode cX4_live 16 = .ok (.aload_n 0, 1) := by decide +kernel
theorem dX4_live_17 : decode cX4_live 17 = .ok (.getfield 26, 3) := by decide +kernel
theorem dX4_live_20 : decode cX4_live 20 = .ok (.bipush 16, 2) := by decide +kernel
theorem dX4_live_22 : decode cX4_live 22 = .ok (.iload_n 1, 1) := by decide +kernel
theorem dX4_live_23 : decode cX4_live 23 = .ok (.imul, 1) := by decide +kernel
theorem dX4_live_24 : decode cX4_live 24 = .ok (.iload 4, 2) := by decide +kernel
theorem dX4_live_26 : decode cX4_live 26 = .ok (.iadd, 1) := by decide +kernel
theorem dX4_live_27 : decode cX4_live 27 = .ok (.iaload, 1) := by decide +kernel
theorem dX4_live_28 : decode cX4_live 28 = .ok (.istore 5, 2) := by decide +kernel
theorem dX4_live_30 : decode cX4_live 30 = .ok (.iload_n 3, 1) := by decide +kernel
theorem dX4_live_31 : decode cX4_live 31 = .ok (.aload_n 0, 1) := by decide +kernel
theorem dX4_live_32 : decode cX4_live 32 = .ok (.aload_n 0, 1) := by decide +kernel
theorem dX4_live_33 : decode cX4_live 33 = .ok (.getfield 7, 3) := by decide +kernel
theorem dX4_live_36 : decode cX4_live 36 = .ok (.iload 5, 2) := by decide +kernel
theorem dX4_live_38 : decode cX4_live 38 = .ok (.iaload, 1) := by decide +kernel
theorem dX4_live_39 : decode cX4_live 39 = .ok (.iload_n 2, 1) := by decide +kernel
theorem dX4_live_40 : decode cX4_live 40 = .ok (.invokevirtual 54, 3) := by decide +kernel
theorem dX4_live_43 : decode cX4_live 43 = .ok (.iload 5, 2) := by decide +kernel
theorem dX4_live_45 : decode cX4_live 45 = .ok (.if_icmp .ne 7, 3) := by decide +kernel
theorem dX4_live_48 : decode cX4_live 48 = .ok (.iconst 1, 1) := by decide +kernel
theorem dX4_live_49 : decode cX4_live 49 = .ok (.goto 4, 3) := by decide +kernel
theorem dX4_live_52 : decode cX4_live 52 = .ok (.iconst 0, 1) := by decide +kernel
theorem dX4_live_53 : decode cX4_live 53 = .ok (.iadd, 1) := by decide +kernel
theorem dX4_live_54 : decode cX4_live 54 = .ok (.istore_n 3, 1) := by decide +kernel
theorem dX4_live_55 : decode cX4_live 55 = .ok (.iinc 4 1, 3) := by decide +kernel
theorem dX4_live_58 : decode cX4_live 58 = .ok (.goto (-53), 3) := by decide +kernel
theorem dX4_live_61 : decode cX4_live 61 = .ok (.iload_n 3, 1) := by decide +kernel
theorem dX4_live_62 : decode cX4_live 62 = .ok (.ireturn, 1) := by decide +kernel
theorem dX4_merged_0 : decode cX4_merged 0 = .ok (.aload_n 0, 1) := by decide +kernel
theorem dX4_merged_1 : decode cX4_merged 1 = .ok (.getfield 82, 3) := by decide +kernel
theorem dX4_merged_4 : decode cX4_merged 4 = .ok (.istore 4, 2) := by decide +kernel
theorem dX4_merged_6 : decode cX4_merged 6 = .ok (.aload_n 0, 1) := by decide +kernel
theorem dX4_merged_7 : decode cX4_merged 7 = .ok (.dup, 1) := by decide +kernel
theorem dX4_merged_8 : decode cX4_merged 8 = .ok (.getfield 82, 3) := by decide +kernel
theorem dX4_merged_11 : decode cX4_merged 11 = .ok (.iconst 1, 1) := by decide +kernel
theorem dX4_merged_12 : decode cX4_merged 12 = .ok (.iadd, 1) := by decide +kernel
theorem dX4_merged_13 : decode cX4_merged 13 = .ok (.putfield 82, 3) := by decide +kernel
theorem dX4_merged_16 : decode cX4_merged 16 = .ok (.aload_n 0, 1) := by decide +kernel
theorem dX4_merged_17 : decode cX4_merged 17 = .ok (.getfield 23, 3) := by decide +kernel
theorem dX4_merged_20 : decode cX4_merged 20 = .ok (.iload 4, 2) := by decide +kernel
theorem dX4_merged_22 : decode cX4_merged 22 = .ok (.iconst 0, 1) := by decide +kernel
theorem dX4_merged_23 : decode cX4_merged 23 = .ok (.iastore, 1) := by decide +kernel
theorem dX4_merged_24 : decode cX4_merged 24 = .ok (.iconst 0, 1) := by decide +kernel
theorem dX4_merged_25 : decode cX4_merged 25 = .ok (.istore 5, 2) := by decide +kernel
theorem dX4_merged_27 : decode cX4_merged 27 = .ok (.iload 5, 2) := by decide +kernel
theorem dX4_merged_29 : decode cX4_merged 29 = .ok (.bipush 16, 2) := by decide +kernel
theorem dX4_merged_31 : decode cX4_merged 31 = .ok (.if_icmp .ge 127, 3) := by decide +kernel
theorem dX4_merged_34 : decode cX4_merged 34 = .ok (.iconst 0, 1) := by decide +kernel
theorem dX4_merged_35 : decode cX4_merged 35 = .ok (.istore 6, 2) := by decide +kernel
theorem dX4_merged_37 : decode cX4_merged 37 = .ok (.iload 6, 2) := by decide +kernel
theorem dX4_merged_39 : decode cX4_merged 39 = .ok (.iconst 2, 1) := by decide +kernel
theorem dX4_merged_40 : decode cX4_merged 40 = .ok (.if_icmp .ge 112, 3) := by decide +kernel
theorem dX4_merged_43 : decode cX4_merged 43 = .ok (.iload 6, 2) := by decide +kernel
theorem dX4_merged_45 : decode cX4_merged 45 = .ok (.ifCond .ne 7, 3) := by decide +kernel
theorem dX4_merged_48 : decode cX4_merged 48 = .ok (.iload_n 1, 1) := by decide +kernel
theorem dX4_merged_49 : decode cX4_merged 49 = .ok (.goto 4, 3) := by decide +kernel
theorem dX4_merged_52 : decode cX4_merged 52 = .ok (.iload_n 2, 1) := by decide +kernel
theorem dX4_merged_53 : decode cX4_merged 53 = .ok (.istore 7, 2) := by decide +kernel
theorem dX4_merged_55 : decode cX4_merged 55 = .ok (.iconst 0, 1) := by decide +kernel
theorem dX4_merged_56 : decode cX4_merged 56 = .ok (.istore 8, 2) := by decide +kernel
theorem dX4_merged_58 : decode cX4_merged 58 = .ok (.iload 8, 2) := by decide +kernel
theorem dX4_merged_60 : decode cX4_merged 60 = .ok (.aload_n 0, 1) := by decide +kernel
theorem dX4_merged_61 : decode cX4_merged 61 = .ok (.getfield 23, 3) := by decide +kernel
theorem dX4_merged_64 : decode cX4_merged 64 = .ok (.iload 7, 2) := by decide +kernel
theorem dX4_merged_66 : decode cX4_merged 66 = .ok (.iaload, 1) := by decide +kernel
theorem dX4_merged_67 : decode cX4_merged 67 = .ok (.if_icmp .ge 79, 3) := by decide +kernel
theorem dX4_merged_70 : decode cX4_merged 70 = .ok (.aload_n 0, 1) := by decide +kernel
theorem dX4_merged_71 : decode cX4_merged 71 = .ok (.getfield 26, 3) := by decide +kernel
theorem dX4_merged_74 : decode cX4_merged 74 = .ok (.bipush 16, 2) := by decide +kernel
theorem dX4_merged_76 : decode cX4_merged 76 = .ok (.iload 7, 2) := by decide +kernel
theorem dX4_merged_78 : decode cX4_merged 78 = .ok (.imul, 1) := by decide +kernel
theorem dX4_merged_79 : decode cX4_merged 79 = .ok (.iload 8, 2) := by decide +kernel
theorem dX4_merged_81 : decode cX4_merged 81 = .ok (.iadd, 1) := by decide +kernel
theorem dX4_merged_82 : decode cX4_merged 82 = .ok (.iaload, 1) := by decide +kernel
theorem dX4_merged_83 : decode cX4_merged 83 = .ok (.istore 9, 2) := by decide +kernel
theorem dX4_merged_85 : decode cX4_merged 85 = .ok (.aload_n 0, 1) := by decide +kernel
theorem dX4_merged_86 : decode cX4_merged 86 = .ok (.getfield 7, 3) := by decide +kernel
theorem dX4_merged_89 : decode cX4_merged 89 = .ok (.iload 9, 2) := by decide +kernel
theorem dX4_merged_91 : decode cX4_merged 91 = .ok (.iaload, 1) := by decide +kernel
theorem dX4_merged_92 : decode cX4_merged 92 = .ok (.iload 5, 2) := by decide +kernel
theorem dX4_merged_94 : decode cX4_merged 94 = .ok (.if_icmp .ne 46, 3) := by decide +kernel
theorem dX4_merged_97 : decode cX4_merged 97 = .ok (.aload_n 0, 1) := by decide +kernel
theorem dX4_merged_98 : decode cX4_merged 98 = .ok (.iload 5, 2) := by decide +kernel
theorem dX4_merged_100 : decode cX4_merged 100 = .ok (.iload_n 3, 1) := by decide +kernel
theorem dX4_merged_101 : decode cX4_merged 101 = .ok (.invokevirtual 54, 3) := by decide +kernel
theorem dX4_merged_104 : decode cX4_merged 104 = .ok (.iload 9, 2) := by decide +kernel
theorem dX4_merged_106 : decode cX4_merged 106 = .ok (.if_icmp .ne 34, 3) := by decide +kernel
theorem dX4_merged_109 : decode cX4_merged 109 = .ok (.aload_n 0, 1) := by decide +kernel
theorem dX4_merged_110 : decode cX4_merged 110 = .ok (.getfield 26, 3) := by decide +kernel
theorem dX4_merged_113 : decode cX4_merged 113 = .ok (.bipush 16, 2) := by decide +kernel
theorem dX4_merged_115 : decode cX4_merged 115 = .ok (.iload 4, 2) := by decide +kernel
theorem dX4_merged_117 : decode cX4_merged 117 = .ok (.imul, 1) := by decide +kernel
theorem dX4_merged_118 : decode cX4_merged 118 = .ok (.aload_n 0, 1) := by decide +kernel
theorem dX4_merged_119 : decode cX4_merged 119 = .ok (.getfield 23, 3) := by decide +kernel
theorem dX4_merged_122 : decode cX4_merged 122 = .ok (.iload 4, 2) := by decide +kernel
theorem dX4_merged_124 : decode cX4_merged 124 = .ok (.iaload, 1) := by decide +kernel
theorem dX4_merged_125 : decode cX4_merged 125 = .ok (.iadd, 1) := by decide +kernel
theorem dX4_merged_126 : decode cX4_merged 126 = .ok (.iload 9, 2) := by decide +kernel
theorem dX4_merged_128 : decode cX4_merged 128 = .ok (.iastore, 1) := by decide +kernel
theorem dX4_merged_129 : decode cX4_merged 129 = .ok (.aload_n 0, 1) := by decide +kernel
theorem dX4_merged_130 : decode cX4_merged 130 = .ok (.getfield 23, 3) := by decide +kernel
theorem dX4_merged_133 : decode cX4_merged 133 = .ok (.iload 4, 2) := by decide +kernel
theorem dX4_merged_135 : decode cX4_merged 135 = .ok (.dup2, 1) := by decide +kernel
theorem dX4_merged_136 : decode cX4_merged 136 = .ok (.iaload, 1) := by decide +kernel
theorem dX4_merged_137 : decode cX4_merged 137 = .ok (.iconst 1, 1) := by decide +kernel
theorem dX4_merged_138 : decode cX4_merged 138 = .ok (.iadd, 1) := by decide +kernel
theorem dX4_merged_139 : decode cX4_merged 139 = .ok (.iastore, 1) := by decide +kernel
theorem dX4_merged_140 : decode cX4_merged 140 = .ok (.iinc 8 1, 3) := by decide +kernel
theorem dX4_merged_143 : decode cX4_merged 143 = .ok (.goto (-85), 3) := by decide +kernel
theorem dX4_merged_146 : decode cX4_merged 146 = .ok (.iinc 6 1, 3) := by decide +kernel
theorem dX4_merged_149 : decode cX4_merged 149 = .ok (.goto (-112), 3) := by decide +kernel
theorem dX4_merged_152 : decode cX4_merged 152 = .ok (.iinc 5 1, 3) := by decide +kernel
theorem dX4_merged_155 : decode cX4_merged 155 = .ok (.goto (-128), 3) := by decide +kernel
theorem dX4_merged_158 : decode cX4_merged 158 = .ok (.aload_n 0, 1) := by decide +kernel
theorem dX4_merged_159 : decode cX4_merged 159 = .ok (.dup, 1) := by decide +kernel
theorem dX4_merged_160 : decode cX4_merged 160 = .ok (.getfield 85, 3) := by decide +kernel
theorem dX4_merged_163 : decode cX4_merged 163 = .ok (.aload_n 0, 1) := by decide +kernel
theorem dX4_merged_164 : decode cX4_merged 164 = .ok (.getfield 23, 3) := by decide +kernel
theorem dX4_merged_167 : decode cX4_merged 167 = .ok (.iload 4, 2) := by decide +kernel
theorem dX4_merged_169 : decode cX4_merged 169 = .ok (.iaload, 1) := by decide +kernel
theorem dX4_merged_170 : decode cX4_merged 170 = .ok (.iadd, 1) := by decide +kernel
theorem dX4_merged_171 : decode cX4_merged 171 = .ok (.putfield 85, 3) := by decide +kernel
theorem dX4_merged_174 : decode cX4_merged 174 = .ok (.iload 4, 2) := by decide +kernel
theorem dX4_merged_176 : decode cX4_merged 176 = .ok (.ireturn, 1) := by decide +kernel
theorem dX4_hasNews_0 : decode cX4_hasNews 0 = .ok (.aload_n 0, 1) := by decide +kernel
theorem dX4_hasNews_1 : decode cX4_hasNews 1 = .ok (.getfield 32, 3) := by decide +kernel
theorem dX4_hasNews_4 : decode cX4_hasNews 4 = .ok (.aload_n 0, 1) := by decide +kernel
theorem dX4_hasNews_5 : decode cX4_hasNews 5 = .ok (.getfield 48, 3) := by decide +kernel
theorem dX4_hasNews_8 : decode cX4_hasNews 8 = .ok (.iaload, 1) := by decide +kernel
theorem dX4_hasNews_9 : decode cX4_hasNews 9 = .ok (.aload_n 0, 1) := by decide +kernel
theorem dX4_hasNews_10 : decode cX4_hasNews 10 = .ok (.getfield 58, 3) := by decide +kernel
theorem dX4_hasNews_13 : decode cX4_hasNews 13 = .ok (.if_icmp .ge 7, 3) := by decide +kernel
theorem dX4_hasNews_16 : decode cX4_hasNews 16 = .ok (.iconst 1, 1) := by decide +kernel
theorem dX4_hasNews_17 : decode cX4_hasNews 17 = .ok (.goto 4, 3) := by decide +kernel
theorem dX4_hasNews_20 : decode cX4_hasNews 20 = .ok (.iconst 0, 1) := by decide +kernel
theorem dX4_hasNews_21 : decode cX4_hasNews 21 = .ok (.ireturn, 1) := by decide +kernel
theorem dX4_renew_0 : decode cX4_renew 0 = .ok (.aload_n 0, 1) := by decide +kernel
theorem dX4_renew_1 : decode cX4_renew 1 = .ok (.invokevirtual 88, 3) := by decide +kernel
theorem dX4_renew_4 : decode cX4_renew 4 = .ok (.ifCond .ne 4, 3) := by decide +kernel
theorem dX4_renew_7 : decode cX4_renew 7 = .ok (.return_, 1) := by decide +kernel
theorem dX4_renew_8 : decode cX4_renew 8 = .ok (.aload_n 0, 1) := by decide +kernel
theorem dX4_renew_9 : decode cX4_renew 9 = .ok (.getfield 29, 3) := by decide +kernel
theorem dX4_renew_12 : decode cX4_renew 12 = .ok (.istore_n 1, 1) := by decide +kernel
theorem dX4_renew_13 : decode cX4_renew 13 = .ok (.aload_n 0, 1) := by decide +kernel
theorem dX4_renew_14 : decode cX4_renew 14 = .ok (.getfield 48, 3) := by decide +kernel
theorem dX4_renew_17 : decode cX4_renew 17 = .ok (.istore_n 2, 1) := by decide +kernel
theorem dX4_renew_18 : decode cX4_renew 18 = .ok (.aload_n 0, 1) := by decide +kernel
theorem dX4_renew_19 : decode cX4_renew 19 = .ok (.getfield 32, 3) := by decide +kernel
theorem dX4_renew_22 : decode cX4_renew 22 = .ok (.iload_n 1, 1) := by decide +kernel
theorem dX4_renew_23 : decode cX4_renew 23 = .ok (.aload_n 0, 1) := by decide +kernel
