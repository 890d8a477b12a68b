theorem dX3_readWithNothingDue_37 : decode cX3_readWithNothingDue 37 = .ok (.bipush 32, 2) := by decide +kernel
theorem dX3_readWithNothingDue_39 : decode cX3_readWithNothingDue 39 = .ok (.if_icmp .ne 15, 3) := by decide +kernel
theorem dX3_readWithNothingDue_42 : decode cX3_readWithNothingDue 42 = .ok (.aload_n 0, 1) := by decide +kernel
theorem dX3_readWithNothingDue_43 : decode cX3_readWithNothingDue 43 = .ok (.getfield 23, 3) := by decide +kernel
theorem dX3_readWithNothingDue_46 : decode cX3_readWithNothingDue 46 = .ok (.iload_n 1, 1) := by decide +kernel
theorem dX3_readWithNothingDue_47 : decode cX3_readWithNothingDue 47 = .ok (.iconst 1, 1) := by decide +kernel
theorem dX3_readWithNothingDue_48 : decode cX3_readWithNothingDue 48 = .ok (.invokevirtual 90, 3) := by decide +kernel
theorem dX3_readWithNothingDue_51 : decode cX3_readWithNothingDue 51 = .ok (.goto 90, 3) := by decide +kernel
theorem dX3_readWithNothingDue_54 : decode cX3_readWithNothingDue 54 = .ok (.iload_n 2, 1) := by decide +kernel
theorem dX3_readWithNothingDue_55 : decode cX3_readWithNothingDue 55 = .ok (.bipush 124, 2) := by decide +kernel
theorem dX3_readWithNothingDue_57 : decode cX3_readWithNothingDue 57 = .ok (.if_icmp .ne 24, 3) := by decide +kernel
theorem dX3_readWithNothingDue_60 : decode cX3_readWithNothingDue 60 = .ok (.aload_n 0, 1) := by decide +kernel
theorem dX3_readWithNothingDue_61 : decode cX3_readWithNothingDue 61 = .ok (.getfield 23, 3) := by decide +kernel
theorem dX3_readWithNothingDue_64 : decode cX3_readWithNothingDue 64 = .ok (.iload_n 1, 1) := by decide +kernel
theorem dX3_readWithNothingDue_65 : decode cX3_readWithNothingDue 65 = .ok (.iconst 2, 1) := by decide +kernel
theorem dX3_readWithNothingDue_66 : decode cX3_readWithNothingDue 66 = .ok (.invokevirtual 90, 3) := by decide +kernel
theorem dX3_readWithNothingDue_69 : decode cX3_readWithNothingDue 69 = .ok (.aload_n 0, 1) := by decide +kernel
theorem dX3_readWithNothingDue_70 : decode cX3_readWithNothingDue 70 = .ok (.iconst 5, 1) := by decide +kernel
theorem dX3_readWithNothingDue_71 : decode cX3_readWithNothingDue 71 = .ok (.invokevirtual 134, 3) := by decide +kernel
theorem dX3_readWithNothingDue_74 : decode cX3_readWithNothingDue 74 = .ok (.aload_n 0, 1) := by decide +kernel
theorem dX3_readWithNothingDue_75 : decode cX3_readWithNothingDue 75 = .ok (.invokevirtual 114, 3) := by decide +kernel
theorem dX3_readWithNothingDue_78 : decode cX3_readWithNothingDue 78 = .ok (.goto 63, 3) := by decide +kernel
theorem dX3_readWithNothingDue_81 : decode cX3_readWithNothingDue 81 = .ok (.iload_n 3, 1) := by decide +kernel
theorem dX3_readWithNothingDue_82 : decode cX3_readWithNothingDue 82 = .ok (.iconst (-1), 1) := by decide +kernel
theorem dX3_readWithNothingDue_83 : decode cX3_readWithNothingDue 83 = .ok (.if_icmp .ne 37, 3) := by decide +kernel
theorem dX3_readWithNothingDue_86 : decode cX3_readWithNothingDue 86 = .ok (.aload_n 0, 1) := by decide +kernel
theorem dX3_readWithNothingDue_87 : decode cX3_readWithNothingDue 87 = .ok (.getfield 23, 3) := by decide +kernel
theorem dX3_readWithNothingDue_90 : decode cX3_readWithNothingDue 90 = .ok (.iload_n 1, 1) := by decide +kernel
theorem dX3_readWithNothingDue_91 : decode cX3_readWithNothingDue 91 = .ok (.bipush 6, 2) := by decide +kernel
theorem dX3_readWithNothingDue_93 : decode cX3_readWithNothingDue 93 = .ok (.invokevirtual 90, 3) := by decide +kernel
theorem dX3_readWithNothingDue_96 : decode cX3_readWithNothingDue 96 = .ok (.aload_n 0, 1) := by decide +kernel
theorem dX3_readWithNothingDue_97 : decode cX3_readWithNothingDue 97 = .ok (.iload_n 1, 1) := by decide +kernel
theorem dX3_readWithNothingDue_98 : decode cX3_readWithNothingDue 98 = .ok (.aload_n 0, 1) := by decide +kernel
theorem dX3_readWithNothingDue_99 : decode cX3_readWithNothingDue 99 = .ok (.getfield 12, 3) := by decide +kernel
theorem dX3_readWithNothingDue_102 : decode cX3_readWithNothingDue 102 = .ok (.iload_n 2, 1) := by decide +kernel
theorem dX3_readWithNothingDue_103 : decode cX3_readWithNothingDue 103 = .ok (.invokevirtual 137, 3) := by decide +kernel
theorem dX3_readWithNothingDue_106 : decode cX3_readWithNothingDue 106 = .ok (.ifCond .eq 7, 3) := by decide +kernel
theorem dX3_readWithNothingDue_109 : decode cX3_readWithNothingDue 109 = .ok (.iconst 1, 1) := by decide +kernel
theorem dX3_readWithNothingDue_110 : decode cX3_readWithNothingDue 110 = .ok (.goto 4, 3) := by decide +kernel
theorem dX3_readWithNothingDue_113 : decode cX3_readWithNothingDue 113 = .ok (.iconst 2, 1) := by decide +kernel
theorem dX3_readWithNothingDue_114 : decode cX3_readWithNothingDue 114 = .ok (.invokevirtual 96, 3) := by decide +kernel
theorem dX3_readWithNothingDue_117 : decode cX3_readWithNothingDue 117 = .ok (.goto 24, 3) := by decide +kernel
theorem dX3_readWithNothingDue_120 : decode cX3_readWithNothingDue 120 = .ok (.iload_n 3, 1) := by decide +kernel
theorem dX3_readWithNothingDue_121 : decode cX3_readWithNothingDue 121 = .ok (.aload_n 0, 1) := by decide +kernel
theorem dX3_readWithNothingDue_122 : decode cX3_readWithNothingDue 122 = .ok (.getfield 51, 3) := by decide +kernel
theorem dX3_readWithNothingDue_125 : decode cX3_readWithNothingDue 125 = .ok (.if_icmp .le 11, 3) := by decide +kernel
theorem dX3_readWithNothingDue_128 : decode cX3_readWithNothingDue 128 = .ok (.aload_n 0, 1) := by decide +kernel
theorem dX3_readWithNothingDue_129 : decode cX3_readWithNothingDue 129 = .ok (.iload_n 1, 1) := by decide +kernel
theorem dX3_readWithNothingDue_130 : decode cX3_readWithNothingDue 130 = .ok (.invokevirtual 140, 3) := by decide +kernel
theorem dX3_readWithNothingDue_133 : decode cX3_readWithNothingDue 133 = .ok (.goto 8, 3) := by decide +kernel
theorem dX3_readWithNothingDue_136 : decode cX3_readWithNothingDue 136 = .ok (.aload_n 0, 1) := by decide +kernel
theorem dX3_readWithNothingDue_137 : decode cX3_readWithNothingDue 137 = .ok (.iload_n 1, 1) := by decide +kernel
theorem dX3_readWithNothingDue_138 : decode cX3_readWithNothingDue 138 = .ok (.invokevirtual 143, 3) := by decide +kernel
theorem dX3_readWithNothingDue_141 : decode cX3_readWithNothingDue 141 = .ok (.iload_n 3, 1) := by decide +kernel
theorem dX3_readWithNothingDue_142 : decode cX3_readWithNothingDue 142 = .ok (.iconst (-1), 1) := by decide +kernel
theorem dX3_readWithNothingDue_143 : decode cX3_readWithNothingDue 143 = .ok (.if_icmp .eq 8, 3) := by decide +kernel
theorem dX3_readWithNothingDue_146 : decode cX3_readWithNothingDue 146 = .ok (.aload_n 0, 1) := by decide +kernel
theorem dX3_readWithNothingDue_147 : decode cX3_readWithNothingDue 147 = .ok (.iload_n 3, 1) := by decide +kernel
theorem dX3_readWithNothingDue_148 : decode cX3_readWithNothingDue 148 = .ok (.putfield 51, 3) := by decide +kernel
theorem dX3_readWithNothingDue_151 : decode cX3_readWithNothingDue 151 = .ok (.return_, 1) := by decide +kernel
theorem dX3_countLetter_0 : decode cX3_countLetter 0 = .ok (.aload_n 0, 1) := by decide +kernel
theorem dX3_countLetter_1 : decode cX3_countLetter 1 = .ok (.getfield 51, 3) := by decide +kernel
theorem dX3_countLetter_4 : decode cX3_countLetter 4 = .ok (.invokestatic 87, 3) := by decide +kernel
theorem dX3_countLetter_7 : decode cX3_countLetter 7 = .ok (.istore_n 1, 1) := by decide +kernel
theorem dX3_countLetter_8 : decode cX3_countLetter 8 = .ok (.aload_n 0, 1) := by decide +kernel
theorem dX3_countLetter_9 : decode cX3_countLetter 9 = .ok (.getfield 45, 3) := by decide +kernel
theorem dX3_countLetter_12 : decode cX3_countLetter 12 = .ok (.iload_n 1, 1) := by decide +kernel
theorem dX3_countLetter_13 : decode cX3_countLetter 13 = .ok (.iconst 1, 1) := by decide +kernel
theorem dX3_countLetter_14 : decode cX3_countLetter 14 = .ok (.invokevirtual 146, 3) := by decide +kernel
theorem dX3_countLetter_17 : decode cX3_countLetter 17 = .ok (.aload_n 0, 1) := by decide +kernel
theorem dX3_countLetter_18 : decode cX3_countLetter 18 = .ok (.iconst 1, 1) := by decide +kernel
theorem dX3_countLetter_19 : decode cX3_countLetter 19 = .ok (.invokevirtual 124, 3) := by decide +kernel
theorem dX3_countLetter_22 : decode cX3_countLetter 22 = .ok (.aload_n 0, 1) := by decide +kernel
theorem dX3_countLetter_23 : decode cX3_countLetter 23 = .ok (.iconst 3, 1) := by decide +kernel
theorem dX3_countLetter_24 : decode cX3_countLetter 24 = .ok (.invokevirtual 134, 3) := by decide +kernel
theorem dX3_countLetter_27 : decode cX3_countLetter 27 = .ok (.iload_n 1, 1) := by decide +kernel
theorem dX3_countLetter_28 : decode cX3_countLetter 28 = .ok (.ifCond .le 24, 3) := by decide +kernel
theorem dX3_countLetter_31 : decode cX3_countLetter 31 = .ok (.aload_n 0, 1) := by decide +kernel
theorem dX3_countLetter_32 : decode cX3_countLetter 32 = .ok (.getfield 39, 3) := by decide +kernel
theorem dX3_countLetter_35 : decode cX3_countLetter 35 = .ok (.aload_n 0, 1) := by decide +kernel
theorem dX3_countLetter_36 : decode cX3_countLetter 36 = .ok (.getfield 48, 3) := by decide +kernel
theorem dX3_countLetter_39 : decode cX3_countLetter 39 = .ok (.iload_n 1, 1) := by decide +kernel
theorem dX3_countLetter_40 : decode cX3_countLetter 40 = .ok (.invokevirtual 76, 3) := by decide +kernel
theorem dX3_countLetter_43 : decode cX3_countLetter 43 = .ok (.bipush 7, 2) := by decide +kernel
theorem dX3_countLetter_45 : decode cX3_countLetter 45 = .ok (.imul, 1) := by decide +kernel
theorem dX3_countLetter_46 : decode cX3_countLetter 46 = .ok (.iconst 4, 1) := by decide +kernel
theorem dX3_countLetter_47 : decode cX3_countLetter 47 = .ok (.iadd, 1) := by decide +kernel
theorem dX3_countLetter_48 : decode cX3_countLetter 48 = .ok (.iconst 1, 1) := by decide +kernel
theorem dX3_countLetter_49 : decode cX3_countLetter 49 = .ok (.invokevirtual 146, 3) := by decide +kernel
theorem dX3_countLetter_52 : decode cX3_countLetter 52 = .ok (.return_, 1) := by decide +kernel
theorem dX3_addToParagraph_0 : decode cX3_addToParagraph 0 = .ok (.aload_n 0, 1) := by decide +kernel
theorem dX3_addToParagraph_1 : decode cX3_addToParagraph 1 = .ok (.getfield 42, 3) := by decide +kernel
theorem dX3_addToParagraph_4 : decode cX3_addToParagraph 4 = .ok (.aload_n 0, 1) := by decide +kernel
theorem dX3_addToParagraph_5 : decode cX3_addToParagraph 5 = .ok (.getfield 105, 3) := by decide +kernel
theorem dX3_addToParagraph_8 : decode cX3_addToParagraph 8 = .ok (.iconst 1, 1) := by decide +kernel
theorem dX3_addToParagraph_9 : decode cX3_addToParagraph 9 = .ok (.isub, 1) := by decide +kernel
theorem dX3_addToParagraph_10 : decode cX3_addToParagraph 10 = .ok (.iconst 3, 1) := by decide +kernel
theorem dX3_addToParagraph_11 : decode cX3_addToParagraph 11 = .ok (.imul, 1) := by decide +kernel
theorem dX3_addToParagraph_12 : decode cX3_addToParagraph 12 = .ok (.iload_n 1, 1) := by decide +kernel
theorem dX3_addToParagraph_13 : decode cX3_addToParagraph 13 = .ok (.iadd, 1) := by decide +kernel
theorem dX3_addToParagraph_14 : decode cX3_addToParagraph 14 = .ok (.iconst 1, 1) := by decide +kernel
theorem dX3_addToParagraph_15 : decode cX3_addToParagraph 15 = .ok (.invokevirtual 146, 3) := by decide +kernel
theorem dX3_addToParagraph_18 : decode cX3_addToParagraph 18 = .ok (.return_, 1) := by decide +kernel
theorem dX3_addToOpenQuotes_0 : decode cX3_addToOpenQuotes 0 = .ok (.aload_n 0, 1) := by decide +kernel
theorem dX3_addToOpenQuotes_1 : decode cX3_addToOpenQuotes 1 = .ok (.getfield 51, 3) := by decide +kernel
theorem dX3_addToOpenQuotes_4 : decode cX3_addToOpenQuotes 4 = .ok (.invokestatic 87, 3) := by decide +kernel
theorem dX3_addToOpenQuotes_7 : decode cX3_addToOpenQuotes 7 = .ok (.istore_n 2, 1) := by decide +kernel
theorem dX3_addToOpenQuotes_8 : decode cX3_addToOpenQuotes 8 = .ok (.iconst 1, 1) := by decide +kernel
theorem dX3_addToOpenQuotes_9 : decode cX3_addToOpenQuotes 9 = .ok (.istore_n 3, 1) := by decide +kernel
theorem dX3_addToOpenQuotes_10 : decode cX3_addToOpenQuotes 10 = .ok (.iload_n 3, 1) := by decide +kernel
theorem dX3_addToOpenQuotes_11 : decode cX3_addToOpenQuotes 11 = .ok (.iload_n 2, 1) := by decide +kernel
theorem dX3_addToOpenQuotes_12 : decode cX3_addToOpenQuotes 12 = .ok (.if_icmp .gt 30, 3) := by decide +kernel
theorem dX3_addToOpenQuotes_15 : decode cX3_addToOpenQuotes 15 = .ok (.aload_n 0, 1) := by decide +kernel
theorem dX3_addToOpenQuotes_16 : decode cX3_addToOpenQuotes 16 = .ok (.getfield 39, 3) := by decide +kernel
theorem dX3_addToOpenQuotes_19 : decode cX3_addToOpenQuotes 19 = .ok (.aload_n 0, 1) := by decide +kernel
theorem dX3_addToOpenQuotes_20 : decode cX3_addToOpenQuotes 20 = .ok (.getfield 48, 3) := by decide +kernel
theorem dX3_addToOpenQuotes_23 : decode cX3_addToOpenQuotes 23 = .ok (.iload_n 3, 1) := by decide +kernel
theorem dX3_addToOpenQuotes_24 : decode cX3_addToOpenQuotes 24 = .ok (.invokevirtual 76, 3) := by decide +kernel
theorem dX3_addToOpenQuotes_27 : decode cX3_addToOpenQuotes 27 = .ok (.bipush 7, 2) := by decide +kernel
theorem dX3_addToOpenQuotes_29 : decode cX3_addToOpenQuotes 29 = .ok (.imul, 1) := by decide +kernel
theorem dX3_addToOpenQuotes_30 : decode cX3_addToOpenQuotes 30 = .ok (.iload_n 1, 1) := by decide +kernel
theorem dX3_addToOpenQuotes_31 : decode cX3_addToOpenQuotes 31 = .ok (.iadd, 1) := by decide +kernel
theorem dX3_addToOpenQuotes_32 : decode cX3_addToOpenQuotes 32 = .ok (.iconst 1, 1) := by decide +kernel
theorem dX3_addToOpenQuotes_33 : decode cX3_addToOpenQuotes 33 = .ok (.invokevirtual 146, 3) := by decide +kernel
theorem dX3_addToOpenQuotes_36 : decode cX3_addToOpenQuotes 36 = .ok (.iinc 3 1, 3) := by decide +kernel
theorem dX3_addToOpenQuotes_39 : decode cX3_addToOpenQuotes 39 = .ok (.goto (-29), 3) := by decide +kernel
theorem dX3_addToOpenQuotes_42 : decode cX3_addToOpenQuotes 42 = .ok (.return_, 1) := by decide +kernel
theorem dX3_openQuote_0 : decode cX3_openQuote 0 = .ok (.aload_n 0, 1) := by decide +kernel
theorem dX3_openQuote_1 : decode cX3_openQuote 1 = .ok (.getfield 51, 3) := by decide +kernel
theorem dX3_openQuote_4 : decode cX3_openQuote 4 = .ok (.invokestatic 87, 3) := by decide +kernel
theorem dX3_openQuote_7 : decode cX3_openQuote 7 = .ok (.istore_n 2, 1) := by decide +kernel
theorem dX3_openQuote_8 : decode cX3_openQuote 8 = .ok (.aload_n 0, 1) := by decide +kernel
theorem dX3_openQuote_9 : decode cX3_openQuote 9 = .ok (.bipush 6, 2) := by decide +kernel
theorem dX3_openQuote_11 : decode cX3_openQuote 11 = .ok (.invokevirtual 134, 3) := by decide +kernel
theorem dX3_openQuote_14 : decode cX3_openQuote 14 = .ok (.aload_n 0, 1) := by decide +kernel
theorem dX3_openQuote_15 : decode cX3_openQuote 15 = .ok (.getfield 102, 3) := by decide +kernel
theorem dX3_openQuote_18 : decode cX3_openQuote 18 = .ok (.bipush 7, 2) := by decide +kernel
theorem dX3_openQuote_20 : decode cX3_openQuote 20 = .ok (.imul, 1) := by decide +kernel
theorem dX3_openQuote_21 : decode cX3_openQuote 21 = .ok (.istore_n 3, 1) := by decide +kernel
theorem dX3_openQuote_22 : decode cX3_openQuote 22 = .ok (.iconst 0, 1) := by decide +kernel
theorem dX3_openQuote_23 : decode cX3_openQuote 23 = .ok (.istore 4, 2) := by decide +kernel
theorem dX3_openQuote_25 : decode cX3_openQuote 25 = .ok (.iload 4, 2) := by decide +kernel
theorem dX3_openQuote_27 : decode cX3_openQuote 27 = .ok (.bipush 7, 2) := by decide +kernel
theorem dX3_openQuote_29 : decode cX3_openQuote 29 = .ok (.if_icmp .ge 21, 3) := by decide +kernel
theorem dX3_openQuote_32 : decode cX3_openQuote 32 = .ok (.aload_n 0, 1) := by decide +kernel
theorem dX3_openQuote_33 : decode cX3_openQuote 33 = .ok (.getfield 39, 3) := by decide +kernel
theorem dX3_openQuote_36 : decode cX3_openQuote 36 = .ok (.iload_n 3, 1) := by decide +kernel
theorem dX3_openQuote_37 : decode cX3_openQuote 37 = .ok (.iload 4, 2) := by decide +kernel
theorem dX3_openQuote_39 : decode cX3_openQuote 39 = .ok (.iadd, 1) := by decide +kernel
theorem dX3_openQuote_40 : decode cX3_openQuote 40 = .ok (.iconst 0, 1) := by decide +kernel
theorem dX3_openQuote_41 : decode cX3_openQuote 41 = .ok (.invokevirtual 90, 3) := by decide +kernel
theorem dX3_openQuote_44 : decode cX3_openQuote 44 = .ok (.iinc 4 1, 3) := by decide +kernel
theorem dX3_openQuote_47 : decode cX3_openQuote 47 = .ok (.goto (-22), 3) := by decide +kernel
theorem dX3_openQuote_50 : decode cX3_openQuote 50 = .ok (.aload_n 0, 1) := by decide +kernel
theorem dX3_openQuote_51 : decode cX3_openQuote 51 = .ok (.getfield 39, 3) := by decide +kernel
theorem dX3_openQuote_54 : decode cX3_openQuote 54 = .ok (.iload_n 3, 1) := by decide +kernel
theorem dX3_openQuote_55 : decode cX3_openQuote 55 = .ok (.iconst 0, 1) := by decide +kernel
theorem dX3_openQuote_56 : decode cX3_openQuote 56 = .ok (.iadd, 1) := by decide +kernel
theorem dX3_openQuote_57 : decode cX3_openQuote 57 = .ok (.iload_n 1, 1) := by decide +kernel
theorem dX3_openQuote_58 : decode cX3_openQuote 58 = .ok (.invokevirtual 90, 3) := by decide +kernel
theorem dX3_openQuote_61 : decode cX3_openQuote 61 = .ok (.aload_n 0, 1) := by decide +kernel
theorem dX3_openQuote_62 : decode cX3_openQuote 62 = .ok (.getfield 39, 3) := by decide +kernel
theorem dX3_openQuote_65 : decode cX3_openQuote 65 = .ok (.iload_n 3, 1) := by decide +kernel
theorem dX3_openQuote_66 : decode cX3_openQuote 66 = .ok (.iconst 1, 1) := by decide +kernel
theorem dX3_openQuote_67 : decode cX3_openQuote 67 = .ok (.iadd, 1) := by decide +kernel
theorem dX3_openQuote_68 : decode cX3_openQuote 68 = .ok (.bipush (-4), 2) := by decide +kernel
theorem dX3_openQuote_70 : decode cX3_openQuote 70 = .ok (.invokevirtual 90, 3) := by decide +kernel
theorem dX3_openQuote_73 : decode cX3_openQuote 73 = .ok (.aload_n 0, 1) := by decide +kernel
theorem dX3_openQuote_74 : decode cX3_openQuote 74 = .ok (.getfield 39, 3) := by decide +kernel
theorem dX3_openQuote_77 : decode cX3_openQuote 77 = .ok (.iload_n 3, 1) := by decide +kernel
theorem dX3_openQuote_78 : decode cX3_openQuote 78 = .ok (.iconst 2, 1) := by decide +kernel
theorem dX3_openQuote_79 : decode cX3_openQuote 79 = .ok (.iadd, 1) := by decide +kernel
theorem dX3_openQuote_80 : decode cX3_openQuote 80 = .ok (.iload_n 2, 1) := by decide +kernel
theorem dX3_openQuote_81 : decode cX3_openQuote 81 = .ok (.iconst 1, 1) := by decide +kernel
theorem dX3_openQuote_82 : decode cX3_openQuote 82 = .ok (.iadd, 1) := by decide +kernel
theorem dX3_openQuote_83 : decode cX3_openQuote 83 = .ok (.invokevirtual 90, 3) := by decide +kernel
theorem dX3_openQuote_86 : decode cX3_openQuote 86 = .ok (.aload_n 0, 1) := by decide +kernel
theorem dX3_openQuote_87 : decode cX3_openQuote 87 = .ok (.getfield 48, 3) := by decide +kernel
theorem dX3_openQuote_90 : decode cX3_openQuote 90 = .ok (.iload_n 2, 1) := by decide +kernel
theorem dX3_openQuote_91 : decode cX3_openQuote 91 = .ok (.iconst 1, 1) := by decide +kernel
theorem dX3_openQuote_92 : decode cX3_openQuote 92 = .ok (.iadd, 1) := by decide +kernel
theorem dX3_openQuote_93 : decode cX3_openQuote 93 = .ok (.aload_n 0, 1) := by decide +kernel
theorem dX3_openQuote_94 : decode cX3_openQuote 94 = .ok (.getfield 102, 3) := by decide +kernel
theorem dX3_openQuote_97 : decode cX3_openQuote 97 = .ok (.invokevirtual 90, 3) := by decide +kernel
theorem dX3_openQuote_100 : decode cX3_openQuote 100 = .ok (.aload_n 0, 1) := by decide +kernel
theorem dX3_openQuote_101 : decode cX3_openQuote 101 = .ok (.dup, 1) := by decide +kernel
theorem dX3_openQuote_102 : decode cX3_openQuote 102 = .ok (.getfield 102, 3) := by decide +kernel
theorem dX3_openQuote_105 : decode cX3_openQuote 105 = .ok (.iconst 1, 1) := by decide +kernel
theorem dX3_openQuote_106 : decode cX3_openQuote 106 = .ok (.iadd, 1) := by decide +kernel
theorem dX3_openQuote_107 : decode cX3_openQuote 107 = .ok (.putfield 102, 3) := by decide +kernel
theorem dX3_openQuote_110 : decode cX3_openQuote 110 = .ok (.aload_n 0, 1) := by decide +kernel
theorem dX3_openQuote_111 : decode cX3_openQuote 111 = .ok (.aload_n 0, 1) := by decide +kernel
theorem dX3_openQuote_112 : decode cX3_openQuote 112 = .ok (.getfield 108, 3) := by decide +kernel
theorem dX3_openQuote_115 : decode cX3_openQuote 115 = .ok (.iload_n 2, 1) := by decide +kernel
theorem dX3_openQuote_116 : decode cX3_openQuote 116 = .ok (.iconst 1, 1) := by decide +kernel
theorem dX3_openQuote_117 : decode cX3_openQuote 117 = .ok (.iadd, 1) := by decide +kernel
theorem dX3_openQuote_118 : decode cX3_openQuote 118 = .ok (.invokestatic 149, 3) := by decide +kernel
theorem dX3_openQuote_121 : decode cX3_openQuote 121 = .ok (.putfield 108, 3) := by decide +kernel
theorem dX3_openQuote_124 : decode cX3_openQuote 124 = .ok (.aload_n 0, 1) := by decide +kernel
theorem dX3_openQuote_125 : decode cX3_openQuote 125 = .ok (.getfield 23, 3) := by decide +kernel
theorem dX3_openQuote_128 : decode cX3_openQuote 128 = .ok (.iload_n 1, 1) := by decide +kernel
theorem dX3_openQuote_129 : decode cX3_openQuote 129 = .ok (.iconst 3, 1) := by decide +kernel
theorem dX3_openQuote_130 : decode cX3_openQuote 130 = .ok (.invokevirtual 90, 3) := by decide +kernel
theorem dX3_openQuote_133 : decode cX3_openQuote 133 = .ok (.aload_n 0, 1) := by decide +kernel
theorem dX3_openQuote_134 : decode cX3_openQuote 134 = .ok (.getfield 33, 3) := by decide +kernel
theorem dX3_openQuote_137 : decode cX3_openQuote 137 = .ok (.iload_n 1, 1) := by decide +kernel
theorem dX3_openQuote_138 : decode cX3_openQuote 138 = .ok (.iload_n 2, 1) := by decide +kernel
theorem dX3_openQuote_139 : decode cX3_openQuote 139 = .ok (.invokevirtual 90, 3) := by decide +kernel
theorem dX3_openQuote_142 : decode cX3_openQuote 142 = .ok (.aload_n 0, 1) := by decide +kernel
theorem dX3_openQuote_143 : decode cX3_openQuote 143 = .ok (.getfield 30, 3) := by decide +kernel
theorem dX3_openQuote_146 : decode cX3_openQuote 146 = .ok (.iload_n 1, 1) := by decide +kernel
theorem dX3_openQuote_147 : decode cX3_openQuote 147 = .ok (.bipush (-4), 2) := by decide +kernel
theorem dX3_openQuote_149 : decode cX3_openQuote 149 = .ok (.invokevirtual 90, 3) := by decide +kernel
theorem dX3_openQuote_152 : decode cX3_openQuote 152 = .ok (.return_, 1) := by decide +kernel
theorem dX3_closeQuote_0 : decode cX3_closeQuote 0 = .ok (.aload_n 0, 1) := by decide +kernel
theorem dX3_closeQuote_1 : decode cX3_closeQuote 1 = .ok (.getfield 51, 3) := by decide +kernel
theorem dX3_closeQuote_4 : decode cX3_closeQuote 4 = .ok (.invokestatic 87, 3) := by decide +kernel
theorem dX3_closeQuote_7 : decode cX3_closeQuote 7 = .ok (.istore_n 2, 1) := by decide +kernel
theorem dX3_closeQuote_8 : decode cX3_closeQuote 8 = .ok (.aload_n 0, 1) := by decide +kernel
theorem dX3_closeQuote_9 : decode cX3_closeQuote 9 = .ok (.getfield 48, 3) := by decide +kernel
theorem dX3_closeQuote_12 : decode cX3_closeQuote 12 = .ok (.iload_n 2, 1) := by decide +kernel
theorem dX3_closeQuote_13 : decode cX3_closeQuote 13 = .ok (.invokevirtual 76, 3) := by decide +kernel
theorem dX3_closeQuote_16 : decode cX3_closeQuote 16 = .ok (.bipush 7, 2) := by decide +kernel
theorem dX3_closeQuote_18 : decode cX3_closeQuote 18 = .ok (.imul, 1) := by decide +kernel
theorem dX3_closeQuote_19 : decode cX3_closeQuote 19 = .ok (.istore_n 3, 1) := by decide +kernel
theorem dX3_closeQuote_20 : decode cX3_closeQuote 20 = .ok (.aload_n 0, 1) := by decide +kernel
theorem dX3_closeQuote_21 : decode cX3_closeQuote 21 = .ok (.getfield 39, 3) := by decide +kernel
theorem dX3_closeQuote_24 : decode cX3_closeQuote 24 = .ok (.iload_n 3, 1) := by decide +kernel
theorem dX3_closeQuote_25 : decode cX3_closeQuote 25 = .ok (.iconst 0, 1) := by decide +kernel
theorem dX3_closeQuote_26 : decode cX3_closeQuote 26 = .ok (.iadd, 1) := by decide +kernel
theorem dX3_closeQuote_27 : decode cX3_closeQuote 27 = .ok (.invokevirtual 76, 3) := by decide +kernel
theorem dX3_closeQuote_30 : decode cX3_closeQuote 30 = .ok (.istore 4, 2) := by decide +kernel
theorem dX3_closeQuote_32 : decode cX3_closeQuote 32 = .ok (.aload_n 0, 1) := by decide +kernel
theorem dX3_closeQuote_33 : decode cX3_closeQuote 33 = .ok (.getfield 39, 3) := by decide +kernel
theorem dX3_closeQuote_36 : decode cX3_closeQuote 36 = .ok (.iload_n 3, 1) := by decide +kernel
theorem dX3_closeQuote_37 : decode cX3_closeQuote 37 = .ok (.iconst 1, 1) := by decide +kernel
theorem dX3_closeQuote_38 : decode cX3_closeQuote 38 = .ok (.iadd, 1) := by decide +kernel
theorem dX3_closeQuote_39 : decode cX3_closeQuote 39 = .ok (.iload_n 1, 1) := by decide +kernel
theorem dX3_closeQuote_40 : decode cX3_closeQuote 40 = .ok (.invokevirtual 90, 3) := by decide +kernel
theorem dX3_closeQuote_43 : decode cX3_closeQuote 43 = .ok (.aload_n 0, 1) := by decide +kernel
theorem dX3_closeQuote_44 : decode cX3_closeQuote 44 = .ok (.getfield 23, 3) := by decide +kernel
theorem dX3_closeQuote_47 : decode cX3_closeQuote 47 = .ok (.iload_n 1, 1) := by decide +kernel
theorem dX3_closeQuote_48 : decode cX3_closeQuote 48 = .ok (.iconst 4, 1) := by decide +kernel
theorem dX3_closeQuote_49 : decode cX3_closeQuote 49 = .ok (.invokevirtual 90, 3) := by decide +kernel
theorem dX3_closeQuote_52 : decode cX3_closeQuote 52 = .ok (.aload_n 0, 1) := by decide +kernel
theorem dX3_closeQuote_53 : decode cX3_closeQuote 53 = .ok (.getfield 33, 3) := by decide +kernel
theorem dX3_closeQuote_56 : decode cX3_closeQuote 56 = .ok (.iload_n 1, 1) := by decide +kernel
theorem dX3_closeQuote_57 : decode cX3_closeQuote 57 = .ok (.iload_n 2, 1) := by decide +kernel
theorem dX3_closeQuote_58 : decode cX3_closeQuote 58 = .ok (.invokevirtual 90, 3) := by decide +kernel
theorem dX3_closeQuote_61 : decode cX3_closeQuote 61 = .ok (.aload_n 0, 1) := by decide +kernel
theorem dX3_closeQuote_62 : decode cX3_closeQuote 62 = .ok (.getfield 30, 3) := by decide +kernel
theorem dX3_closeQuote_65 : decode cX3_closeQuote 65 = .ok (.iload_n 1, 1) := by decide +kernel
theorem dX3_closeQuote_66 : decode cX3_closeQuote 66 = .ok (.iload 4, 2) := by decide +kernel
theorem dX3_closeQuote_68 : decode cX3_closeQuote 68 = .ok (.invokevirtual 90, 3) := by decide +kernel
theorem dX3_closeQuote_71 : decode cX3_closeQuote 71 = .ok (.aload_n 0, 1) := by decide +kernel
theorem dX3_closeQuote_72 : decode cX3_closeQuote 72 = .ok (.getfield 30, 3) := by decide +kernel
theorem dX3_closeQuote_75 : decode cX3_closeQuote 75 = .ok (.iload 4, 2) := by decide +kernel
theorem dX3_closeQuote_77 : decode cX3_closeQuote 77 = .ok (.iload_n 1, 1) := by decide +kernel
theorem dX3_closeQuote_78 : decode cX3_closeQuote 78 = .ok (.invokevirtual 90, 3) := by decide +kernel
theorem dX3_closeQuote_81 : decode cX3_closeQuote 81 = .ok (.return_, 1) := by decide +kernel
theorem dX3_addWrong_0 : decode cX3_addWrong 0 = .ok (.aload_n 0, 1) := by decide +kernel
theorem dX3_addWrong_1 : decode cX3_addWrong 1 = .ok (.getfield 36, 3) := by decide +kernel
theorem dX3_addWrong_4 : decode cX3_addWrong 4 = .ok (.aload_n 0, 1) := by decide +kernel
theorem dX3_addWrong_5 : decode cX3_addWrong 5 = .ok (.getfield 99, 3) := by decide +kernel
theorem dX3_addWrong_8 : decode cX3_addWrong 8 = .ok (.iconst 2, 1) := by decide +kernel
theorem dX3_addWrong_9 : decode cX3_addWrong 9 = .ok (.imul, 1) := by decide +kernel
theorem dX3_addWrong_10 : decode cX3_addWrong 10 = .ok (.iload_n 1, 1) := by decide +kernel
theorem dX3_addWrong_11 : decode cX3_addWrong 11 = .ok (.invokevirtual 90, 3) := by decide +kernel
theorem dX3_addWrong_14 : decode cX3_addWrong 14 = .ok (.aload_n 0, 1) := by decide +kernel
theorem dX3_addWrong_15 : decode cX3_addWrong 15 = .ok (.getfield 36, 3) := by decide +kernel
theorem dX3_addWrong_18 : decode cX3_addWrong 18 = .ok (.aload_n 0, 1) := by decide +kernel
theorem dX3_addWrong_19 : decode cX3_addWrong 19 = .ok (.getfield 99, 3) := by decide +kernel
theorem dX3_addWrong_22 : decode cX3_addWrong 22 = .ok (.iconst 2, 1) := by decide +kernel
theorem dX3_addWrong_23 : decode cX3_addWrong 23 = .ok (.imul, 1) := by decide +kernel
theorem dX3_addWrong_24 : decode cX3_addWrong 24 = .ok (.iconst 1, 1) := by decide +kernel
theorem dX3_addWrong_25 : decode cX3_addWrong 25 = .ok (.iadd, 1) := by decide +kernel
theorem dX3_addWrong_26 : decode cX3_addWrong 26 = .ok (.iload_n 2, 1) := by decide +kernel
theorem dX3_addWrong_27 : decode cX3_addWrong 27 = .ok (.invokevirtual 90, 3) := by decide +kernel
theorem dX3_addWrong_30 : decode cX3_addWrong 30 = .ok (.aload_n 0, 1) := by decide +kernel
theorem dX3_addWrong_31 : decode cX3_addWrong 31 = .ok (.dup, 1) := by decide +kernel
theorem dX3_addWrong_32 : decode cX3_addWrong 32 = .ok (.getfield 99, 3) := by decide +kernel
theorem dX3_addWrong_35 : decode cX3_addWrong 35 = .ok (.iconst 1, 1) := by decide +kernel
theorem dX3_addWrong_36 : decode cX3_addWrong 36 = .ok (.iadd, 1) := by decide +kernel
theorem dX3_addWrong_37 : decode cX3_addWrong 37 = .ok (.putfield 99, 3) := by decide +kernel
theorem dX3_addWrong_40 : decode cX3_addWrong 40 = .ok (.return_, 1) := by decide +kernel
theorem dX4_init_0 : decode cX4_init 0 = .ok (.aload_n 0, 1) := by decide +kernel
theorem dX4_init_1 : decode cX4_init 1 = .ok (.invokespecial 1, 3) := by decide +kernel
theorem dX4_init_4 : decode cX4_init 4 = .ok (.aload_n 0, 1) := by decide +kernel
theorem dX4_init_5 : decode cX4_init 5 = .ok (.iload_n 1, 1) := by decide +kernel
theorem dX4_init_6 : decode cX4_init 6 = .ok (.iconst 0, 1) := by decide +kernel
theorem dX4_init_7 : decode cX4_init 7 = .ok (.invokestatic 7, 3) := by decide +kernel
theorem dX4_init_10 : decode cX4_init 10 = .ok (.newarray .int, 2) := by decide +kernel
theorem dX4_init_12 : decode cX4_init 12 = .ok (.putfield 13, 3) := by decide +kernel
theorem dX4_init_15 : decode cX4_init 15 = .ok (.return_, 1) := by decide +kernel
theorem dX4_at_0 : decode cX4_at 0 = .ok (.iload_n 1, 1) := by decide +kernel
theorem dX4_at_1 : decode cX4_at 1 = .ok (.ifCond .lt 21, 3) := by decide +kernel
theorem dX4_at_4 : decode cX4_at 4 = .ok (.iload_n 1, 1) := by decide +kernel
theorem dX4_at_5 : decode cX4_at 5 = .ok (.aload_n 0, 1) := by decide +kernel
theorem dX4_at_6 : decode cX4_at 6 = .ok (.getfield 13, 3) := by decide +kernel
theorem dX4_at_9 : decode cX4_at 9 = .ok (.arraylength, 1) := by decide +kernel
theorem dX4_at_10 : decode cX4_at 10 = .ok (.if_icmp .ge 12, 3) := by decide +kernel
theorem dX4_at_13 : decode cX4_at 13 = .ok (.aload_n 0, 1) := by decide +kernel
theorem dX4_at_14 : decode cX4_at 14 = .ok (.getfield 13, 3) := by decide +kernel
theorem dX4_at_17 : decode cX4_at 17 = .ok (.iload_n 1, 1) := by decide +kernel
theorem dX4_at_18 : decode cX4_at 18 = .ok (.iaload, 1) := by decide +kernel
theorem dX4_at_19 : decode cX4_at 19 = .ok (.goto 4, 3) := by decide +kernel
theorem dX4_at_22 : decode cX4_at 22 = .ok (.iconst 0, 1) := by decide +kernel
theorem dX4_at_23 : decode cX4_at 23 = .ok (.ireturn, 1) := by decide +kernel
theorem dX4_set_0 : decode cX4_set 0 = .ok (.iload_n 1, 1) := by decide +kernel
theorem dX4_set_1 : decode cX4_set 1 = .ok (.ifCond .lt 19, 3) := by decide +kernel
theorem dX4_set_4 : decode cX4_set 4 = .ok (.iload_n 1, 1) := by decide +kernel
theorem dX4_set_5 : decode cX4_set 5 = .ok (.aload_n 0, 1) := by decide +kernel
theorem dX4_set_6 : decode cX4_set 6 = .ok (.getfield 13, 3) := by decide +kernel
theorem dX4_set_9 : decode cX4_set 9 = .ok (.arraylength, 1) := by decide +kernel
theorem dX4_set_10 : decode cX4_set 10 = .ok (.if_icmp .ge 10, 3) := by decide +kernel
theorem dX4_set_13 : decode cX4_set 13 = .ok (.aload_n 0, 1) := by decide +kernel
theorem dX4_set_14 : decode cX4_set 14 = .ok (.getfield 13, 3) := by decide +kernel
theorem dX4_set_17 : decode cX4_set 17 = .ok (.iload_n 1, 1) := by decide +kernel
theorem dX4_set_18 : decode cX4_set 18 = .ok (.iload_n 2, 1) := by decide +kernel
theorem dX4_set_19 : decode cX4_set 19 = .ok (.iastore, 1) := by decide +kernel
theorem dX4_set_20 : decode cX4_set 20 = .ok (.return_, 1) := by decide +kernel
theorem dX4_add_0 : decode cX4_add 0 = .ok (.iload_n 1, 1) := by decide +kernel
theorem dX4_add_1 : decode cX4_add 1 = .ok (.ifCond .lt 22, 3) := by decide +kernel
theorem dX4_add_4 : decode cX4_add 4 = .ok (.iload_n 1, 1) := by decide +kernel
theorem dX4_add_5 : decode cX4_add 5 = .ok (.aload_n 0, 1) := by decide +kernel
theorem dX4_add_6 : decode cX4_add 6 = .ok (.getfield 13, 3) := by decide +kernel
theorem dX4_add_9 : decode cX4_add 9 = .ok (.arraylength, 1) := by decide +kernel
theorem dX4_add_10 : decode cX4_add 10 = .ok (.if_icmp .ge 13, 3) := by decide +kernel
theorem dX4_add_13 : decode cX4_add 13 = .ok (.aload_n 0, 1) := by decide +kernel
theorem dX4_add_14 : decode cX4_add 14 = .ok (.getfield 13, 3) := by decide +kernel
theorem dX4_add_17 : decode cX4_add 17 = .ok (.iload_n 1, 1) := by decide +kernel
theorem dX4_add_18 : decode cX4_add 18 = .ok (.dup2, 1) := by decide +kernel
theorem dX4_add_19 : decode cX4_add 19 = .ok (.iaload, 1) := by decide +kernel
theorem dX4_add_20 : decode cX4_add 20 = .ok (.iload_n 2, 1) := by decide +kernel
theorem dX4_add_21 : decode cX4_add 21 = .ok (.iadd, 1) := by decide +kernel
theorem dX4_add_22 : decode cX4_add 22 = .ok (.iastore, 1) := by decide +kernel
theorem dX4_add_23 : decode cX4_add 23 = .ok (.return_, 1) := by decide +kernel
theorem dX4_fill_0 : decode cX4_fill 0 = .ok (.iconst 0, 1) := by decide +kernel
theorem dX4_fill_1 : decode cX4_fill 1 = .ok (.istore_n 2, 1) := by decide +kernel
theorem dX4_fill_2 : decode cX4_fill 2 = .ok (.iload_n 2, 1) := by decide +kernel
theorem dX4_fill_3 : decode cX4_fill 3 = .ok (.aload_n 0, 1) := by decide +kernel
theorem dX4_fill_4 : decode cX4_fill 4 = .ok (.getfield 13, 3) := by decide +kernel
theorem dX4_fill_7 : decode cX4_fill 7 = .ok (.arraylength, 1) := by decide +kernel
theorem dX4_fill_8 : decode cX4_fill 8 = .ok (.if_icmp .ge 16, 3) := by decide +kernel
theorem dX4_fill_11 : decode cX4_fill 11 = .ok (.aload_n 0, 1) := by decide +kernel
theorem dX4_fill_12 : decode cX4_fill 12 = .ok (.getfield 13, 3) := by decide +kernel
theorem dX4_fill_15 : decode cX4_fill 15 = .ok (.iload_n 2, 1) := by decide +kernel
theorem dX4_fill_16 : decode cX4_fill 16 = .ok (.iload_n 1, 1) := by decide +kernel
theorem dX4_fill_17 : decode cX4_fill 17 = .ok (.iastore, 1) := by decide +kernel
theorem dX4_fill_18 : decode cX4_fill 18 = .ok (.iinc 2 1, 3) := by decide +kernel
theorem dX4_fill_21 : decode cX4_fill 21 = .ok (.goto (-19), 3) := by decide +kernel
theorem dX4_fill_24 : decode cX4_fill 24 = .ok (.return_, 1) := by decide +kernel
theorem dX4_copyFrom_0 : decode cX4_copyFrom 0 = .ok (.iconst 0, 1) := by decide +kernel
theorem dX4_copyFrom_1 : decode cX4_copyFrom 1 = .ok (.istore_n 3, 1) := by decide +kernel
theorem dX4_copyFrom_2 : decode cX4_copyFrom 2 = .ok (.iload_n 3, 1) := by decide +kernel
theorem dX4_copyFrom_3 : decode cX4_copyFrom 3 = .ok (.iload_n 2, 1) := by decide +kernel
theorem dX4_copyFrom_4 : decode cX4_copyFrom 4 = .ok (.if_icmp .ge 19, 3) := by decide +kernel
theorem dX4_copyFrom_7 : decode cX4_copyFrom 7 = .ok (.aload_n 0, 1) := by decide +kernel
theorem dX4_copyFrom_8 : decode cX4_copyFrom 8 = .ok (.iload_n 3, 1) := by decide +kernel
theorem dX4_copyFrom_9 : decode cX4_copyFrom 9 = .ok (.aload_n 1, 1) := by decide +kernel
theorem dX4_copyFrom_10 : decode cX4_copyFrom 10 = .ok (.iload_n 3, 1) := by decide +kernel
theorem dX4_copyFrom_11 : decode cX4_copyFrom 11 = .ok (.invokevirtual 19, 3) := by decide +kernel
theorem dX4_copyFrom_14 : decode cX4_copyFrom 14 = .ok (.invokevirtual 23, 3) := by decide +kernel
theorem dX4_copyFrom_17 : decode cX4_copyFrom 17 = .ok (.iinc 3 1, 3) := by decide +kernel
theorem dX4_copyFrom_20 : decode cX4_copyFrom 20 = .ok (.goto (-18), 3) := by decide +kernel
theorem dX4_copyFrom_23 : decode cX4_copyFrom 23 = .ok (.return_, 1) := by decide +kernel
theorem dX5_init_0 : decode cX5_init 0 = .ok (.aload_n 0, 1) := by decide +kernel
theorem dX5_init_1 : decode cX5_init 1 = .ok (.invokespecial 3, 3) := by decide +kernel
theorem dX5_init_4 : decode cX5_init 4 = .ok (.aload_n 0, 1) := by decide +kernel
theorem dX5_init_5 : decode cX5_init 5 = .ok (.new 9, 3) := by decide +kernel
theorem dX5_init_8 : decode cX5_init 8 = .ok (.dup, 1) := by decide +kernel
theorem dX5_init_9 : decode cX5_init 9 = .ok (.bipush 120, 2) := by decide +kernel
theorem dX5_init_11 : decode cX5_init 11 = .ok (.invokespecial 11, 3) := by decide +kernel
theorem dX5_init_14 : decode cX5_init 14 = .ok (.putfield 14, 3) := by decide +kernel
theorem dX5_init_17 : decode cX5_init 17 = .ok (.aload_n 0, 1) := by decide +kernel
theorem dX5_init_18 : decode cX5_init 18 = .ok (.new 9, 3) := by decide +kernel
theorem dX5_init_21 : decode cX5_init 21 = .ok (.dup, 1) := by decide +kernel
theorem dX5_init_22 : decode cX5_init 22 = .ok (.iconst 3, 1) := by decide +kernel
theorem dX5_init_23 : decode cX5_init 23 = .ok (.invokespecial 11, 3) := by decide +kernel
theorem dX5_init_26 : decode cX5_init 26 = .ok (.putfield 20, 3) := by decide +kernel
theorem dX5_init_29 : decode cX5_init 29 = .ok (.aload_n 0, 1) := by decide +kernel
theorem dX5_init_30 : decode cX5_init 30 = .ok (.iconst 0, 1) := by decide +kernel
theorem dX5_init_31 : decode cX5_init 31 = .ok (.putfield 23, 3) := by decide +kernel
theorem dX5_init_34 : decode cX5_init 34 = .ok (.aload_n 0, 1) := by decide +kernel
theorem dX5_init_35 : decode cX5_init 35 = .ok (.iconst 0, 1) := by decide +kernel
theorem dX5_init_36 : decode cX5_init 36 = .ok (.putfield 27, 3) := by decide +kernel
theorem dX5_init_39 : decode cX5_init 39 = .ok (.aload_n 0, 1) := by decide +kernel
theorem dX5_init_40 : decode cX5_init 40 = .ok (.iconst 1, 1) := by decide +kernel
theorem dX5_init_41 : decode cX5_init 41 = .ok (.putfield 30, 3) := by decide +kernel
theorem dX5_init_44 : decode cX5_init 44 = .ok (.aload_n 0, 1) := by decide +kernel
theorem dX5_init_45 : decode cX5_init 45 = .ok (.getfield 20, 3) := by decide +kernel
theorem dX5_init_48 : decode cX5_init 48 = .ok (.iconst 1, 1) := by decide +kernel
theorem dX5_init_49 : decode cX5_init 49 = .ok (.invokevirtual 33, 3) := by decide +kernel
theorem dX5_init_52 : decode cX5_init 52 = .ok (.return_, 1) := by decide +kernel
theorem dX5_becomeLike_0 : decode cX5_becomeLike 0 = .ok (.aload_n 0, 1) := by decide +kernel
theorem dX5_becomeLike_1 : decode cX5_becomeLike 1 = .ok (.aload_n 1, 1) := by decide +kernel
theorem dX5_becomeLike_2 : decode cX5_becomeLike 2 = .ok (.getfield 14, 3) := by decide +kernel
theorem dX5_becomeLike_5 : decode cX5_becomeLike 5 = .ok (.aload_n 1, 1) := by decide +kernel
theorem dX5_becomeLike_6 : decode cX5_becomeLike 6 = .ok (.getfield 23, 3) := by decide +kernel
theorem dX5_becomeLike_9 : decode cX5_becomeLike 9 = .ok (.invokevirtual 36, 3) := by decide +kernel
theorem dX5_becomeLike_12 : decode cX5_becomeLike 12 = .ok (.aload_n 0, 1) := by decide +kernel
theorem dX5_becomeLike_13 : decode cX5_becomeLike 13 = .ok (.aload_n 1, 1) := by decide +kernel
theorem dX5_becomeLike_14 : decode cX5_becomeLike 14 = .ok (.getfield 27, 3) := by decide +kernel
theorem dX5_becomeLike_17 : decode cX5_becomeLike 17 = .ok (.putfield 27, 3) := by decide +kernel
theorem dX5_becomeLike_20 : decode cX5_becomeLike 20 = .ok (.aload_n 0, 1) := by decide +kernel
theorem dX5_becomeLike_21 : decode cX5_becomeLike 21 = .ok (.aload_n 1, 1) := by decide +kernel
theorem dX5_becomeLike_22 : decode cX5_becomeLike 22 = .ok (.getfield 30, 3) := by decide +kernel
theorem dX5_becomeLike_25 : decode cX5_becomeLike 25 = .ok (.putfield 30, 3) := by decide +kernel
theorem dX5_becomeLike_28 : decode cX5_becomeLike 28 = .ok (.aload_n 0, 1) := by decide +kernel
theorem dX5_becomeLike_29 : decode cX5_becomeLike 29 = .ok (.getfield 20, 3) := by decide +kernel
theorem dX5_becomeLike_32 : decode cX5_becomeLike 32 = .ok (.aload_n 1, 1) := by decide +kernel
theorem dX5_becomeLike_33 : decode cX5_becomeLike 33 = .ok (.getfield 20, 3) := by decide +kernel
theorem dX5_becomeLike_36 : decode cX5_becomeLike 36 = .ok (.iconst 3, 1) := by decide +kernel
theorem dX5_becomeLike_37 : decode cX5_becomeLike 37 = .ok (.invokevirtual 40, 3) := by decide +kernel
theorem dX5_becomeLike_40 : decode cX5_becomeLike 40 = .ok (.return_, 1) := by decide +kernel
theorem dX5_replaceBy_0 : decode cX5_replaceBy 0 = .ok (.aload_n 0, 1) := by decide +kernel
theorem dX5_replaceBy_1 : decode cX5_replaceBy 1 = .ok (.iload_n 2, 1) := by decide +kernel
theorem dX5_replaceBy_2 : decode cX5_replaceBy 2 = .ok (.bipush 120, 2) := by decide +kernel
theorem dX5_replaceBy_4 : decode cX5_replaceBy 4 = .ok (.invokestatic 43, 3) := by decide +kernel
theorem dX5_replaceBy_7 : decode cX5_replaceBy 7 = .ok (.putfield 23, 3) := by decide +kernel
theorem dX5_replaceBy_10 : decode cX5_replaceBy 10 = .ok (.aload_n 0, 1) := by decide +kernel
theorem dX5_replaceBy_11 : decode cX5_replaceBy 11 = .ok (.getfield 14, 3) := by decide +kernel
theorem dX5_replaceBy_14 : decode cX5_replaceBy 14 = .ok (.aload_n 1, 1) := by decide +kernel
theorem dX5_replaceBy_15 : decode cX5_replaceBy 15 = .ok (.aload_n 0, 1) := by decide +kernel
theorem dX5_replaceBy_16 : decode cX5_replaceBy 16 = .ok (.getfield 23, 3) := by decide +kernel
theorem dX5_replaceBy_19 : decode cX5_replaceBy 19 = .ok (.invokevirtual 40, 3) := by decide +kernel
theorem dX5_replaceBy_22 : decode cX5_replaceBy 22 = .ok (.return_, 1) := by decide +kernel
theorem dX5_insert_0 : decode cX5_insert 0 = .ok (.aload_n 0, 1) := by decide +kernel
theorem dX5_insert_1 : decode cX5_insert 1 = .ok (.getfield 23, 3) := by decide +kernel
theorem dX5_insert_4 : decode cX5_insert 4 = .ok (.istore_n 3, 1) := by decide +kernel
theorem dX5_insert_5 : decode cX5_insert 5 = .ok (.iload_n 3, 1) := by decide +kernel
theorem dX5_insert_6 : decode cX5_insert 6 = .ok (.iload_n 1, 1) := by decide +kernel
theorem dX5_insert_7 : decode cX5_insert 7 = .ok (.if_icmp .le 27, 3) := by decide +kernel
theorem dX5_insert_10 : decode cX5_insert 10 = .ok (.aload_n 0, 1) := by decide +kernel
theorem dX5_insert_11 : decode cX5_insert 11 = .ok (.getfield 14, 3) := by decide +kernel
theorem dX5_insert_14 : decode cX5_insert 14 = .ok (.iload_n 3, 1) := by decide +kernel
theorem dX5_insert_15 : decode cX5_insert 15 = .ok (.aload_n 0, 1) := by decide +kernel
theorem dX5_insert_16 : decode cX5_insert 16 = .ok (.getfield 14, 3) := by decide +kernel
theorem dX5_insert_19 : decode cX5_insert 19 = .ok (.iload_n 3, 1) := by decide +kernel
theorem dX5_insert_20 : decode cX5_insert 20 = .ok (.iconst 1, 1) := by decide +kernel
theorem dX5_insert_21 : decode cX5_insert 21 = .ok (.isub, 1) := by decide +kernel
theorem dX5_insert_22 : decode cX5_insert 22 = .ok (.invokevirtual 49, 3) := by decide +kernel
theorem dX5_insert_25 : decode cX5_insert 25 = .ok (.invokevirtual 53, 3) := by decide +kernel
theorem dX5_insert_28 : decode cX5_insert 28 = .ok (.iinc 3 (-1), 3) := by decide +kernel
theorem dX5_insert_31 : decode cX5_insert 31 = .ok (.goto (-26), 3) := by decide +kernel
theorem dX5_insert_34 : decode cX5_insert 34 = .ok (.aload_n 0, 1) := by decide +kernel
theorem dX5_insert_35 : decode cX5_insert 35 = .ok (.getfield 14, 3) := by decide +kernel
theorem dX5_insert_38 : decode cX5_insert 38 = .ok (.iload_n 1, 1) := by decide +kernel
theorem dX5_insert_39 : decode cX5_insert 39 = .ok (.iload_n 2, 1) := by decide +kernel
theorem dX5_insert_40 : decode cX5_insert 40 = .ok (.invokevirtual 53, 3) := by decide +kernel
theorem dX5_insert_43 : decode cX5_insert 43 = .ok (.aload_n 0, 1) := by decide +kernel
theorem dX5_insert_44 : decode cX5_insert 44 = .ok (.aload_n 0, 1) := by decide +kernel
theorem dX5_insert_45 : decode cX5_insert 45 = .ok (.getfield 23, 3) := by decide +kernel
theorem dX5_insert_48 : decode cX5_insert 48 = .ok (.iconst 1, 1) := by decide +kernel
theorem dX5_insert_49 : decode cX5_insert 49 = .ok (.iadd, 1) := by decide +kernel
theorem dX5_insert_50 : decode cX5_insert 50 = .ok (.bipush 120, 2) := by decide +kernel
theorem dX5_insert_52 : decode cX5_insert 52 = .ok (.invokestatic 43, 3) := by decide +kernel
theorem dX5_insert_55 : decode cX5_insert 55 = .ok (.putfield 23, 3) := by decide +kernel
theorem dX5_insert_58 : decode cX5_insert 58 = .ok (.return_, 1) := by decide +kernel
theorem dX5_remove_0 : decode cX5_remove 0 = .ok (.iload_n 1, 1) := by decide +kernel
theorem dX5_remove_1 : decode cX5_remove 1 = .ok (.istore_n 2, 1) := by decide +kernel
theorem dX5_remove_2 : decode cX5_remove 2 = .ok (.iload_n 2, 1) := by decide +kernel
theorem dX5_remove_3 : decode cX5_remove 3 = .ok (.aload_n 0, 1) := by decide +kernel
theorem dX5_remove_4 : decode cX5_remove 4 = .ok (.getfield 23, 3) := by decide +kernel
theorem dX5_remove_7 : decode cX5_remove 7 = .ok (.iconst 1, 1) := by decide +kernel
theorem dX5_remove_8 : decode cX5_remove 8 = .ok (.isub, 1) := by decide +kernel
theorem dX5_remove_9 : decode cX5_remove 9 = .ok (.if_icmp .ge 27, 3) := by decide +kernel
theorem dX5_remove_12 : decode cX5_remove 12 = .ok (.aload_n 0, 1) := by decide +kernel
theorem dX5_remove_13 : decode cX5_remove 13 = .ok (.getfield 14, 3) := by decide +kernel
theorem dX5_remove_16 : decode cX5_remove 16 = .ok (.iload_n 2, 1) := by decide +kernel
theorem dX5_remove_17 : decode cX5_remove 17 = .ok (.aload_n 0, 1) := by decide +kernel
theorem dX5_remove_18 : decode cX5_remove 18 = .ok (.getfield 14, 3) := by decide +kernel
theorem dX5_remove_21 : decode cX5_remove 21 = .ok (.iload_n 2, 1) := by decide +kernel
theorem dX5_remove_22 : decode cX5_remove 22 = .ok (.iconst 1, 1) := by decide +kernel
theorem dX5_remove_23 : decode cX5_remove 23 = .ok (.iadd, 1) := by decide +kernel
theorem dX5_remove_24 : decode cX5_remove 24 = .ok (.invokevirtual 49, 3) := by decide +kernel
theorem dX5_remove_27 : decode cX5_remove 27 = .ok (.invokevirtual 53, 3) := by decide +kernel
theorem dX5_remove_30 : decode cX5_remove 30 = .ok (.iinc 2 1, 3) := by decide +kernel
theorem dX5_remove_33 : decode cX5_remove 33 = .ok (.goto (-31), 3) := by decide +kernel
theorem dX5_remove_36 : decode cX5_remove 36 = .ok (.aload_n 0, 1) := by decide +kernel
theorem dX5_remove_37 : decode cX5_remove 37 = .ok (.aload_n 0, 1) := by decide +kernel
theorem dX5_remove_38 : decode cX5_remove 38 = .ok (.getfield 23, 3) := by decide +kernel
theorem dX5_remove_41 : decode cX5_remove 41 = .ok (.iconst 1, 1) := by decide +kernel
theorem dX5_remove_42 : decode cX5_remove 42 = .ok (.isub, 1) := by decide +kernel
theorem dX5_remove_43 : decode cX5_remove 43 = .ok (.iconst 0, 1) := by decide +kernel
theorem dX5_remove_44 : decode cX5_remove 44 = .ok (.invokestatic 57, 3) := by decide +kernel
theorem dX5_remove_47 : decode cX5_remove 47 = .ok (.putfield 23, 3) := by decide +kernel
theorem dX5_remove_50 : decode cX5_remove 50 = .ok (.return_, 1) := by decide +kernel
theorem dX5_marks_0 : decode cX5_marks 0 = .ok (.iconst 0, 1) := by decide +kernel
theorem dX5_marks_1 : decode cX5_marks 1 = .ok (.istore_n 1, 1) := by decide +kernel
theorem dX5_marks_2 : decode cX5_marks 2 = .ok (.iconst 0, 1) := by decide +kernel
theorem dX5_marks_3 : decode cX5_marks 3 = .ok (.istore_n 2, 1) := by decide +kernel
theorem dX5_marks_4 : decode cX5_marks 4 = .ok (.iload_n 2, 1) := by decide +kernel
theorem dX5_marks_5 : decode cX5_marks 5 = .ok (.aload_n 0, 1) := by decide +kernel
theorem dX5_marks_6 : decode cX5_marks 6 = .ok (.getfield 23, 3) := by decide +kernel
theorem dX5_marks_9 : decode cX5_marks 9 = .ok (.if_icmp .ge 26, 3) := by decide +kernel
theorem dX5_marks_12 : decode cX5_marks 12 = .ok (.aload_n 0, 1) := by decide +kernel
theorem dX5_marks_13 : decode cX5_marks 13 = .ok (.getfield 14, 3) := by decide +kernel
theorem dX5_marks_16 : decode cX5_marks 16 = .ok (.iload_n 2, 1) := by decide +kernel
theorem dX5_marks_17 : decode cX5_marks 17 = .ok (.invokevirtual 49, 3) := by decide +kernel
theorem dX5_marks_20 : decode cX5_marks 20 = .ok (.invokestatic 60, 3) := by decide +kernel
theorem dX5_marks_23 : decode cX5_marks 23 = .ok (.ifCond .eq 6, 3) := by decide +kernel
theorem dX5_marks_26 : decode cX5_marks 26 = .ok (.iinc 1 1, 3) := by decide +kernel
theorem dX5_marks_29 : decode cX5_marks 29 = .ok (.iinc 2 1, 3) := by decide +kernel
theorem dX5_marks_32 : decode cX5_marks 32 = .ok (.goto (-28), 3) := by decide +kernel
theorem dX5_marks_35 : decode cX5_marks 35 = .ok (.iload_n 1, 1) := by decide +kernel
theorem dX5_marks_36 : decode cX5_marks 36 = .ok (.ireturn, 1) := by decide +kernel
theorem dX6_init_0 : decode cX6_init 0 = .ok (.aload_n 0, 1) := by decide +kernel
theorem dX6_init_1 : decode cX6_init 1 = .ok (.invokespecial 3, 3) := by decide +kernel
theorem dX6_init_4 : decode cX6_init 4 = .ok (.aload_n 0, 1) := by decide +kernel
theorem dX6_init_5 : decode cX6_init 5 = .ok (.new 9, 3) := by decide +kernel
theorem dX6_init_8 : decode cX6_init 8 = .ok (.dup, 1) := by decide +kernel
theorem dX6_init_9 : decode cX6_init 9 = .ok (.sipush 200, 3) := by decide +kernel
theorem dX6_init_12 : decode cX6_init 12 = .ok (.invokespecial 11, 3) := by decide +kernel
theorem dX6_init_15 : decode cX6_init 15 = .ok (.putfield 14, 3) := by decide +kernel
theorem dX6_init_18 : decode cX6_init 18 = .ok (.aload_n 0, 1) := by decide +kernel
theorem dX6_init_19 : decode cX6_init 19 = .ok (.new 18, 3) := by decide +kernel
theorem dX6_init_22 : decode cX6_init 22 = .ok (.dup, 1) := by decide +kernel
theorem dX6_init_23 : decode cX6_init 23 = .ok (.invokespecial 20, 3) := by decide +kernel
theorem dX6_init_26 : decode cX6_init 26 = .ok (.putfield 21, 3) := by decide +kernel
theorem dX6_init_29 : decode cX6_init 29 = .ok (.aload_n 0, 1) := by decide +kernel
theorem dX6_init_30 : decode cX6_init 30 = .ok (.new 25, 3) := by decide +kernel
theorem dX6_init_33 : decode cX6_init 33 = .ok (.dup, 1) := by decide +kernel
theorem dX6_init_34 : decode cX6_init 34 = .ok (.invokespecial 27, 3) := by decide +kernel
theorem dX6_init_37 : decode cX6_init 37 = .ok (.putfield 28, 3) := by decide +kernel
theorem dX6_init_40 : decode cX6_init 40 = .ok (.aload_n 0, 1) := by decide +kernel
theorem dX6_init_41 : decode cX6_init 41 = .ok (.new 32, 3) := by decide +kernel
theorem dX6_init_44 : decode cX6_init 44 = .ok (.dup, 1) := by decide +kernel
theorem dX6_init_45 : decode cX6_init 45 = .ok (.invokespecial 34, 3) := by decide +kernel
theorem dX6_init_48 : decode cX6_init 48 = .ok (.putfield 35, 3) := by decide +kernel
theorem dX6_init_51 : decode cX6_init 51 = .ok (.aload_n 0, 1) := by decide +kernel
theorem dX6_init_52 : decode cX6_init 52 = .ok (.new 39, 3) := by decide +kernel
theorem dX6_init_55 : decode cX6_init 55 = .ok (.dup, 1) := by decide +kernel
theorem dX6_init_56 : decode cX6_init 56 = .ok (.invokespecial 41, 3) := by decide +kernel
theorem dX6_init_59 : decode cX6_init 59 = .ok (.putfield 42, 3) := by decide +kernel
theorem dX6_init_62 : decode cX6_init 62 = .ok (.aload_n 0, 1) := by decide +kernel
theorem dX6_init_63 : decode cX6_init 63 = .ok (.iconst 0, 1) := by decide +kernel
theorem dX6_init_64 : decode cX6_init 64 = .ok (.putfield 46, 3) := by decide +kernel
theorem dX6_init_67 : decode cX6_init 67 = .ok (.aload_n 0, 1) := by decide +kernel
theorem dX6_init_68 : decode cX6_init 68 = .ok (.iconst 0, 1) := by decide +kernel
theorem dX6_init_69 : decode cX6_init 69 = .ok (.putfield 50, 3) := by decide +kernel
theorem dX6_init_72 : decode cX6_init 72 = .ok (.aload_n 0, 1) := by decide +kernel
theorem dX6_init_73 : decode cX6_init 73 = .ok (.iconst 0, 1) := by decide +kernel
theorem dX6_init_74 : decode cX6_init 74 = .ok (.putfield 54, 3) := by decide +kernel
theorem dX6_init_77 : decode cX6_init 77 = .ok (.return_, 1) := by decide +kernel
theorem dX6_write_0 : decode cX6_write 0 = .ok (.iload_n 1, 1) := by decide +kernel
theorem dX6_write_1 : decode cX6_write 1 = .ok (.bipush 32, 2) := by decide +kernel
theorem dX6_write_3 : decode cX6_write 3 = .ok (.if_icmp .lt 9, 3) := by decide +kernel
theorem dX6_write_6 : decode cX6_write 6 = .ok (.iload_n 1, 1) := by decide +kernel
theorem dX6_write_7 : decode cX6_write 7 = .ok (.bipush 126, 2) := by decide +kernel
theorem dX6_write_9 : decode cX6_write 9 = .ok (.if_icmp .le 5, 3) := by decide +kernel
theorem dX6_write_12 : decode cX6_write 12 = .ok (.iconst (-1), 1) := by decide +kernel
theorem dX6_write_13 : decode cX6_write 13 = .ok (.ireturn, 1) := by decide +kernel
theorem dX6_write_14 : decode cX6_write 14 = .ok (.aload_n 0, 1) := by decide +kernel
theorem dX6_write_15 : decode cX6_write 15 = .ok (.getfield 46, 3) := by decide +kernel
theorem dX6_write_18 : decode cX6_write 18 = .ok (.sipush 200, 3) := by decide +kernel
theorem dX6_write_21 : decode cX6_write 21 = .ok (.if_icmp .lt 6, 3) := by decide +kernel
theorem dX6_write_24 : decode cX6_write 24 = .ok (.bipush (-3), 2) := by decide +kernel
theorem dX6_write_26 : decode cX6_write 26 = .ok (.ireturn, 1) := by decide +kernel
theorem dX6_write_27 : decode cX6_write 27 = .ok (.aload_n 0, 1) := by decide +kernel
theorem dX6_write_28 : decode cX6_write 28 = .ok (.getfield 14, 3) := by decide +kernel
theorem dX6_write_31 : decode cX6_write 31 = .ok (.aload_n 0, 1) := by decide +kernel
theorem dX6_write_32 : decode cX6_write 32 = .ok (.getfield 46, 3) := by decide +kernel
theorem dX6_write_35 : decode cX6_write 35 = .ok (.iload_n 1, 1) := by decide +kernel
theorem dX6_write_36 : decode cX6_write 36 = .ok (.invokevirtual 57, 3) := by decide +kernel
theorem dX6_write_39 : decode cX6_write 39 = .ok (.aload_n 0, 1) := by decide +kernel
theorem dX6_write_40 : decode cX6_write 40 = .ok (.dup, 1) := by decide +kernel
theorem dX6_write_41 : decode cX6_write 41 = .ok (.getfield 46, 3) := by decide +kernel
theorem dX6_write_44 : decode cX6_write 44 = .ok (.iconst 1, 1) := by decide +kernel
theorem dX6_write_45 : decode cX6_write 45 = .ok (.iadd, 1) := by decide +kernel
theorem dX6_write_46 : decode cX6_write 46 = .ok (.putfield 46, 3) := by decide +kernel
theorem dX6_write_49 : decode cX6_write 49 = .ok (.aload_n 0, 1) := by decide +kernel
theorem dX6_write_50 : decode cX6_write 50 = .ok (.getfield 46, 3) := by decide +kernel
theorem dX6_write_53 : decode cX6_write 53 = .ok (.ireturn, 1) := by decide +kernel
theorem dX6_wipe_0 : decode cX6_wipe 0 = .ok (.aload_n 0, 1) := by decide +kernel
theorem dX6_wipe_1 : decode cX6_wipe 1 = .ok (.getfield 46, 3) := by decide +kernel
theorem dX6_wipe_4 : decode cX6_wipe 4 = .ok (.istore_n 1, 1) := by decide +kernel
theorem dX6_wipe_5 : decode cX6_wipe 5 = .ok (.aload_n 0, 1) := by decide +kernel
theorem dX6_wipe_6 : decode cX6_wipe 6 = .ok (.iconst 0, 1) := by decide +kernel
theorem dX6_wipe_7 : decode cX6_wipe 7 = .ok (.putfield 46, 3) := by decide +kernel
theorem dX6_wipe_10 : decode cX6_wipe 10 = .ok (.iload_n 1, 1) := by decide +kernel
theorem dX6_wipe_11 : decode cX6_wipe 11 = .ok (.ireturn, 1) := by decide +kernel
theorem dX6_fault_0 : decode cX6_fault 0 = .ok (.iconst 0, 1) := by decide +kernel
theorem dX6_fault_1 : decode cX6_fault 1 = .ok (.istore_n 1, 1) := by decide +kernel
theorem dX6_fault_2 : decode cX6_fault 2 = .ok (.iload_n 1, 1) := by decide +kernel
theorem dX6_fault_3 : decode cX6_fault 3 = .ok (.aload_n 0, 1) := by decide +kernel
theorem dX6_fault_4 : decode cX6_fault 4 = .ok (.getfield 46, 3) := by decide +kernel
theorem dX6_fault_7 : decode cX6_fault 7 = .ok (.if_icmp .ge 31, 3) := by decide +kernel
theorem dX6_fault_10 : decode cX6_fault 10 = .ok (.iload_n 1, 1) := by decide +kernel
theorem dX6_fault_11 : decode cX6_fault 11 = .ok (.bipush 120, 2) := by decide +kernel
theorem dX6_fault_13 : decode cX6_fault 13 = .ok (.if_icmp .ge 17, 3) := by decide +kernel
theorem dX6_fault_16 : decode cX6_fault 16 = .ok (.aload_n 0, 1) := by decide +kernel
theorem dX6_fault_17 : decode cX6_fault 17 = .ok (.getfield 14, 3) := by decide +kernel
theorem dX6_fault_20 : decode cX6_fault 20 = .ok (.iload_n 1, 1) := by decide +kernel
theorem dX6_fault_21 : decode cX6_fault 21 = .ok (.invokevirtual 61, 3) := by decide +kernel
theorem dX6_fault_24 : decode cX6_fault 24 = .ok (.invokestatic 65, 3) := by decide +kernel
theorem dX6_fault_27 : decode cX6_fault 27 = .ok (.ifCond .ne 5, 3) := by decide +kernel
theorem dX6_fault_30 : decode cX6_fault 30 = .ok (.iload_n 1, 1) := by decide +kernel
theorem dX6_fault_31 : decode cX6_fault 31 = .ok (.ireturn, 1) := by decide +kernel
theorem dX6_fault_32 : decode cX6_fault 32 = .ok (.iinc 1 1, 3) := by decide +kernel
theorem dX6_fault_35 : decode cX6_fault 35 = .ok (.goto (-33), 3) := by decide +kernel
theorem dX6_fault_38 : decode cX6_fault 38 = .ok (.bipush (-4), 2) := by decide +kernel
theorem dX6_fault_40 : decode cX6_fault 40 = .ok (.ireturn, 1) := by decide +kernel
theorem dX6_lay_0 : decode cX6_lay 0 = .ok (.aload_n 0, 1) := by decide +kernel
theorem dX6_lay_1 : decode cX6_lay 1 = .ok (.invokevirtual 69, 3) := by decide +kernel
theorem dX6_lay_4 : decode cX6_lay 4 = .ok (.bipush (-4), 2) := by decide +kernel
theorem dX6_lay_6 : decode cX6_lay 6 = .ok (.if_icmp .eq 6, 3) := by decide +kernel
theorem dX6_lay_9 : decode cX6_lay 9 = .ok (.bipush (-2), 2) := by decide +kernel
theorem dX6_lay_11 : decode cX6_lay 11 = .ok (.ireturn, 1) := by decide +kernel
theorem dX6_lay_12 : decode cX6_lay 12 = .ok (.aload_n 0, 1) := by decide +kernel
theorem dX6_lay_13 : decode cX6_lay 13 = .ok (.getfield 21, 3) := by decide +kernel
theorem dX6_lay_16 : decode cX6_lay 16 = .ok (.aload_n 0, 1) := by decide +kernel
theorem dX6_lay_17 : decode cX6_lay 17 = .ok (.getfield 14, 3) := by decide +kernel
theorem dX6_lay_20 : decode cX6_lay 20 = .ok (.aload_n 0, 1) := by decide +kernel
theorem dX6_lay_21 : decode cX6_lay 21 = .ok (.getfield 46, 3) := by decide +kernel
theorem dX6_lay_24 : decode cX6_lay 24 = .ok (.invokevirtual 73, 3) := by decide +kernel
theorem dX6_lay_27 : decode cX6_lay 27 = .ok (.aload_n 0, 1) := by decide +kernel
theorem dX6_lay_28 : decode cX6_lay 28 = .ok (.getfield 28, 3) := by decide +kernel
theorem dX6_lay_31 : decode cX6_lay 31 = .ok (.invokevirtual 77, 3) := by decide +kernel
theorem dX6_lay_34 : decode cX6_lay 34 = .ok (.aload_n 0, 1) := by decide +kernel
theorem dX6_lay_35 : decode cX6_lay 35 = .ok (.invokevirtual 80, 3) := by decide +kernel
theorem dX6_lay_38 : decode cX6_lay 38 = .ok (.aload_n 0, 1) := by decide +kernel
theorem dX6_lay_39 : decode cX6_lay 39 = .ok (.getfield 21, 3) := by decide +kernel
theorem dX6_lay_42 : decode cX6_lay 42 = .ok (.getfield 83, 3) := by decide +kernel
theorem dX6_lay_45 : decode cX6_lay 45 = .ok (.ireturn, 1) := by decide +kernel
theorem dX6_speak_0 : decode cX6_speak 0 = .ok (.aload_n 0, 1) := by decide +kernel
theorem dX6_speak_1 : decode cX6_speak 1 = .ok (.invokevirtual 86, 3) := by decide +kernel
theorem dX6_speak_4 : decode cX6_speak 4 = .ok (.istore_n 1, 1) := by decide +kernel
theorem dX6_speak_5 : decode cX6_speak 5 = .ok (.iload_n 1, 1) := by decide +kernel
theorem dX6_speak_6 : decode cX6_speak 6 = .ok (.bipush (-4), 2) := by decide +kernel
theorem dX6_speak_8 : decode cX6_speak 8 = .ok (.if_icmp .ne 6, 3) := by decide +kernel
theorem dX6_speak_11 : decode cX6_speak 11 = .ok (.bipush (-4), 2) := by decide +kernel
theorem dX6_speak_13 : decode cX6_speak 13 = .ok (.ireturn, 1) := by decide +kernel
theorem dX6_speak_14 : decode cX6_speak 14 = .ok (.iload_n 1, 1) := by decide +kernel
theorem dX6_speak_15 : decode cX6_speak 15 = .ok (.aload_n 0, 1) := by decide +kernel
theorem dX6_speak_16 : decode cX6_speak 16 = .ok (.getfield 21, 3) := by decide +kernel
theorem dX6_speak_19 : decode cX6_speak 19 = .ok (.getfield 89, 3) := by decide +kernel
theorem dX6_speak_22 : decode cX6_speak 22 = .ok (.if_icmp .ne 6, 3) := by decide +kernel
theorem dX6_speak_25 : decode cX6_speak 25 = .ok (.bipush (-2), 2) := by decide +kernel
theorem dX6_speak_27 : decode cX6_speak 27 = .ok (.ireturn, 1) := by decide +kernel
theorem dX6_speak_28 : decode cX6_speak 28 = .ok (.aload_n 0, 1) := by decide +kernel
theorem dX6_speak_29 : decode cX6_speak 29 = .ok (.invokevirtual 92, 3) := by decide +kernel
theorem dX6_speak_32 : decode cX6_speak 32 = .ok (.aload_n 0, 1) := by decide +kernel
theorem dX6_speak_33 : decode cX6_speak 33 = .ok (.getfield 21, 3) := by decide +kernel
theorem dX6_speak_36 : decode cX6_speak 36 = .ok (.iload_n 1, 1) := by decide +kernel
theorem dX6_speak_37 : decode cX6_speak 37 = .ok (.putfield 89, 3) := by decide +kernel
theorem dX6_speak_40 : decode cX6_speak 40 = .ok (.iload_n 1, 1) := by decide +kernel
theorem dX6_speak_41 : decode cX6_speak 41 = .ok (.ireturn, 1) := by decide +kernel
theorem dX6_rule_0 : decode cX6_rule 0 = .ok (.iload_n 1, 1) := by decide +kernel
theorem dX6_rule_1 : decode cX6_rule 1 = .ok (.iconst 3, 1) := by decide +kernel
theorem dX6_rule_2 : decode cX6_rule 2 = .ok (.invokestatic 95, 3) := by decide +kernel
theorem dX6_rule_5 : decode cX6_rule 5 = .ok (.ifCond .ne 5, 3) := by decide +kernel
theorem dX6_rule_8 : decode cX6_rule 8 = .ok (.iconst (-1), 1) := by decide +kernel
theorem dX6_rule_9 : decode cX6_rule 9 = .ok (.ireturn, 1) := by decide +kernel
theorem dX6_rule_10 : decode cX6_rule 10 = .ok (.iload_n 1, 1) := by decide +kernel
theorem dX6_rule_11 : decode cX6_rule 11 = .ok (.aload_n 0, 1) := by decide +kernel
theorem dX6_rule_12 : decode cX6_rule 12 = .ok (.getfield 21, 3) := by decide +kernel
theorem dX6_rule_15 : decode cX6_rule 15 = .ok (.getfield 99, 3) := by decide +kernel
theorem dX6_rule_18 : decode cX6_rule 18 = .ok (.if_icmp .ne 6, 3) := by decide +kernel
theorem dX6_rule_21 : decode cX6_rule 21 = .ok (.bipush (-2), 2) := by decide +kernel
theorem dX6_rule_23 : decode cX6_rule 23 = .ok (.ireturn, 1) := by decide +kernel
theorem dX6_rule_24 : decode cX6_rule 24 = .ok (.aload_n 0, 1) := by decide +kernel
theorem dX6_rule_25 : decode cX6_rule 25 = .ok (.invokevirtual 92, 3) := by decide +kernel
theorem dX6_rule_28 : decode cX6_rule 28 = .ok (.aload_n 0, 1) := by decide +kernel
theorem dX6_rule_29 : decode cX6_rule 29 = .ok (.getfield 21, 3) := by decide +kernel
theorem dX6_rule_32 : decode cX6_rule 32 = .ok (.getfield 99, 3) := by decide +kernel
theorem dX6_rule_35 : decode cX6_rule 35 = .ok (.istore_n 2, 1) := by decide +kernel
theorem dX6_rule_36 : decode cX6_rule 36 = .ok (.aload_n 0, 1) := by decide +kernel
theorem dX6_rule_37 : decode cX6_rule 37 = .ok (.getfield 21, 3) := by decide +kernel
theorem dX6_rule_40 : decode cX6_rule 40 = .ok (.iload_n 1, 1) := by decide +kernel
theorem dX6_rule_41 : decode cX6_rule 41 = .ok (.putfield 99, 3) := by decide +kernel
theorem dX6_rule_44 : decode cX6_rule 44 = .ok (.iload_n 2, 1) := by decide +kernel
theorem dX6_rule_45 : decode cX6_rule 45 = .ok (.ireturn, 1) := by decide +kernel
theorem dX6_weigh_0 : decode cX6_weigh 0 = .ok (.iload_n 1, 1) := by decide +kernel
theorem dX6_weigh_1 : decode cX6_weigh 1 = .ok (.iconst 3, 1) := by decide +kernel
theorem dX6_weigh_2 : decode cX6_weigh 2 = .ok (.invokestatic 95, 3) := by decide +kernel
theorem dX6_weigh_5 : decode cX6_weigh 5 = .ok (.ifCond .eq 14, 3) := by decide +kernel
theorem dX6_weigh_8 : decode cX6_weigh 8 = .ok (.iload_n 2, 1) := by decide +kernel
theorem dX6_weigh_9 : decode cX6_weigh 9 = .ok (.iconst 1, 1) := by decide +kernel
theorem dX6_weigh_10 : decode cX6_weigh 10 = .ok (.if_icmp .lt 9, 3) := by decide +kernel
theorem dX6_weigh_13 : decode cX6_weigh 13 = .ok (.iload_n 2, 1) := by decide +kernel
theorem dX6_weigh_14 : decode cX6_weigh 14 = .ok (.bipush 9, 2) := by decide +kernel
theorem dX6_weigh_16 : decode cX6_weigh 16 = .ok (.if_icmp .le 5, 3) := by decide +kernel
theorem dX6_weigh_19 : decode cX6_weigh 19 = .ok (.iconst (-1), 1) := by decide +kernel
theorem dX6_weigh_20 : decode cX6_weigh 20 = .ok (.ireturn, 1) := by decide +kernel
theorem dX6_weigh_21 : decode cX6_weigh 21 = .ok (.aload_n 0, 1) := by decide +kernel
theorem dX6_weigh_22 : decode cX6_weigh 22 = .ok (.getfield 21, 3) := by decide +kernel
theorem dX6_weigh_25 : decode cX6_weigh 25 = .ok (.getfield 102, 3) := by decide +kernel
theorem dX6_weigh_28 : decode cX6_weigh 28 = .ok (.iload_n 1, 1) := by decide +kernel
theorem dX6_weigh_29 : decode cX6_weigh 29 = .ok (.invokevirtual 61, 3) := by decide +kernel
theorem dX6_weigh_32 : decode cX6_weigh 32 = .ok (.istore_n 3, 1) := by decide +kernel
theorem dX6_weigh_33 : decode cX6_weigh 33 = .ok (.iload_n 2, 1) := by decide +kernel
theorem dX6_weigh_34 : decode cX6_weigh 34 = .ok (.iload_n 3, 1) := by decide +kernel
theorem dX6_weigh_35 : decode cX6_weigh 35 = .ok (.if_icmp .ne 6, 3) := by decide +kernel
theorem dX6_weigh_38 : decode cX6_weigh 38 = .ok (.bipush (-2), 2) := by decide +kernel
theorem dX6_weigh_40 : decode cX6_weigh 40 = .ok (.ireturn, 1) := by decide +kernel
theorem dX6_weigh_41 : decode cX6_weigh 41 = .ok (.aload_n 0, 1) := by decide +kernel
theorem dX6_weigh_42 : decode cX6_weigh 42 = .ok (.invokevirtual 92, 3) := by decide +kernel
theorem dX6_weigh_45 : decode cX6_weigh 45 = .ok (.aload_n 0, 1) := by decide +kernel
theorem dX6_weigh_46 : decode cX6_weigh 46 = .ok (.getfield 21, 3) := by decide +kernel
theorem dX6_weigh_49 : decode cX6_weigh 49 = .ok (.getfield 102, 3) := by decide +kernel
theorem dX6_weigh_52 : decode cX6_weigh 52 = .ok (.iload_n 1, 1) := by decide +kernel
theorem dX6_weigh_53 : decode cX6_weigh 53 = .ok (.iload_n 2, 1) := by decide +kernel
theorem dX6_weigh_54 : decode cX6_weigh 54 = .ok (.invokevirtual 57, 3) := by decide +kernel
theorem dX6_weigh_57 : decode cX6_weigh 57 = .ok (.iload_n 3, 1) := by decide +kernel
theorem dX6_weigh_58 : decode cX6_weigh 58 = .ok (.ireturn, 1) := by decide +kernel
theorem dX6_put_0 : decode cX6_put 0 = .ok (.iload_n 1, 1) := by decide +kernel
theorem dX6_put_1 : decode cX6_put 1 = .ok (.ifCond .lt 21, 3) := by decide +kernel
theorem dX6_put_4 : decode cX6_put 4 = .ok (.iload_n 1, 1) := by decide +kernel
theorem dX6_put_5 : decode cX6_put 5 = .ok (.aload_n 0, 1) := by decide +kernel
theorem dX6_put_6 : decode cX6_put 6 = .ok (.getfield 21, 3) := by decide +kernel
theorem dX6_put_9 : decode cX6_put 9 = .ok (.getfield 83, 3) := by decide +kernel
theorem dX6_put_12 : decode cX6_put 12 = .ok (.if_icmp .gt 10, 3) := by decide +kernel
theorem dX6_put_15 : decode cX6_put 15 = .ok (.iload_n 2, 1) := by decide +kernel
theorem dX6_put_16 : decode cX6_put 16 = .ok (.invokestatic 65, 3) := by decide +kernel
theorem dX6_put_19 : decode cX6_put 19 = .ok (.ifCond .ne 5, 3) := by decide +kernel
theorem dX6_put_22 : decode cX6_put 22 = .ok (.iconst (-1), 1) := by decide +kernel
theorem dX6_put_23 : decode cX6_put 23 = .ok (.ireturn, 1) := by decide +kernel
theorem dX6_put_24 : decode cX6_put 24 = .ok (.aload_n 0, 1) := by decide +kernel
theorem dX6_put_25 : decode cX6_put 25 = .ok (.getfield 21, 3) := by decide +kernel
theorem dX6_put_28 : decode cX6_put 28 = .ok (.getfield 83, 3) := by decide +kernel
theorem dX6_put_31 : decode cX6_put 31 = .ok (.bipush 120, 2) := by decide +kernel
theorem dX6_put_33 : decode cX6_put 33 = .ok (.if_icmp .lt 6, 3) := by decide +kernel
theorem dX6_put_36 : decode cX6_put 36 = .ok (.bipush (-3), 2) := by decide +kernel
theorem dX6_put_38 : decode cX6_put 38 = .ok (.ireturn, 1) := by decide +kernel
theorem dX6_put_39 : decode cX6_put 39 = .ok (.aload_n 0, 1) := by decide +kernel
theorem dX6_put_40 : decode cX6_put 40 = .ok (.invokevirtual 92, 3) := by decide +kernel
theorem dX6_put_43 : decode cX6_put 43 = .ok (.aload_n 0, 1) := by decide +kernel
theorem dX6_put_44 : decode cX6_put 44 = .ok (.getfield 21, 3) := by decide +kernel
theorem dX6_put_47 : decode cX6_put 47 = .ok (.iload_n 1, 1) := by decide +kernel
theorem dX6_put_48 : decode cX6_put 48 = .ok (.iload_n 2, 1) := by decide +kernel
theorem dX6_put_49 : decode cX6_put 49 = .ok (.invokevirtual 105, 3) := by decide +kernel
theorem dX6_put_52 : decode cX6_put 52 = .ok (.aload_n 0, 1) := by decide +kernel
theorem dX6_put_53 : decode cX6_put 53 = .ok (.getfield 21, 3) := by decide +kernel
theorem dX6_put_56 : decode cX6_put 56 = .ok (.getfield 83, 3) := by decide +kernel
theorem dX6_put_59 : decode cX6_put 59 = .ok (.ireturn, 1) := by decide +kernel
theorem dX6_take_0 : decode cX6_take 0 = .ok (.iload_n 1, 1) := by decide +kernel
theorem dX6_take_1 : decode cX6_take 1 = .ok (.aload_n 0, 1) := by decide +kernel
theorem dX6_take_2 : decode cX6_take 2 = .ok (.getfield 21, 3) := by decide +kernel
theorem dX6_take_5 : decode cX6_take 5 = .ok (.getfield 83, 3) := by decide +kernel
theorem dX6_take_8 : decode cX6_take 8 = .ok (.invokestatic 95, 3) := by decide +kernel
theorem dX6_take_11 : decode cX6_take 11 = .ok (.ifCond .ne 5, 3) := by decide +kernel
theorem dX6_take_14 : decode cX6_take 14 = .ok (.iconst (-1), 1) := by decide +kernel
theorem dX6_take_15 : decode cX6_take 15 = .ok (.ireturn, 1) := by decide +kernel
theorem dX6_take_16 : decode cX6_take 16 = .ok (.aload_n 0, 1) := by decide +kernel
theorem dX6_take_17 : decode cX6_take 17 = .ok (.getfield 21, 3) := by decide +kernel
theorem dX6_take_20 : decode cX6_take 20 = .ok (.getfield 108, 3) := by decide +kernel
theorem dX6_take_23 : decode cX6_take 23 = .ok (.iload_n 1, 1) := by decide +kernel
theorem dX6_take_24 : decode cX6_take 24 = .ok (.invokevirtual 61, 3) := by decide +kernel
theorem dX6_take_27 : decode cX6_take 27 = .ok (.istore_n 2, 1) := by decide +kernel
theorem dX6_take_28 : decode cX6_take 28 = .ok (.aload_n 0, 1) := by decide +kernel
theorem dX6_take_29 : decode cX6_take 29 = .ok (.invokevirtual 92, 3) := by decide +kernel
theorem dX6_take_32 : decode cX6_take 32 = .ok (.aload_n 0, 1) := by decide +kernel
theorem dX6_take_33 : decode cX6_take 33 = .ok (.getfield 21, 3) := by decide +kernel
theorem dX6_take_36 : decode cX6_take 36 = .ok (.iload_n 1, 1) := by decide +kernel
theorem dX6_take_37 : decode cX6_take 37 = .ok (.invokevirtual 111, 3) := by decide +kernel
theorem dX6_take_40 : decode cX6_take 40 = .ok (.iload_n 2, 1) := by decide +kernel
theorem dX6_take_41 : decode cX6_take 41 = .ok (.ireturn, 1) := by decide +kernel
theorem dX6_alter_0 : decode cX6_alter 0 = .ok (.iload_n 1, 1) := by decide +kernel
theorem dX6_alter_1 : decode cX6_alter 1 = .ok (.aload_n 0, 1) := by decide +kernel
theorem dX6_alter_2 : decode cX6_alter 2 = .ok (.getfield 21, 3) := by decide +kernel
theorem dX6_alter_5 : decode cX6_alter 5 = .ok (.getfield 83, 3) := by decide +kernel
theorem dX6_alter_8 : decode cX6_alter 8 = .ok (.invokestatic 95, 3) := by decide +kernel
theorem dX6_alter_11 : decode cX6_alter 11 = .ok (.ifCond .eq 10, 3) := by decide +kernel
theorem dX6_alter_14 : decode cX6_alter 14 = .ok (.iload_n 2, 1) := by decide +kernel
theorem dX6_alter_15 : decode cX6_alter 15 = .ok (.invokestatic 65, 3) := by decide +kernel
theorem dX6_alter_18 : decode cX6_alter 18 = .ok (.ifCond .ne 5, 3) := by decide +kernel
theorem dX6_alter_21 : decode cX6_alter 21 = .ok (.iconst (-1), 1) := by decide +kernel
theorem dX6_alter_22 : decode cX6_alter 22 = .ok (.ireturn, 1) := by decide +kernel
theorem dX6_alter_23 : decode cX6_alter 23 = .ok (.aload_n 0, 1) := by decide +kernel
theorem dX6_alter_24 : decode cX6_alter 24 = .ok (.getfield 21, 3) := by decide +kernel
theorem dX6_alter_27 : decode cX6_alter 27 = .ok (.getfield 108, 3) := by decide +kernel
theorem dX6_alter_30 : decode cX6_alter 30 = .ok (.iload_n 1, 1) := by decide +kernel
theorem dX6_alter_31 : decode cX6_alter 31 = .ok (.invokevirtual 61, 3) := by decide +kernel
theorem dX6_alter_34 : decode cX6_alter 34 = .ok (.istore_n 3, 1) := by decide +kernel
theorem dX6_alter_35 : decode cX6_alter 35 = .ok (.iload_n 2, 1) := by decide +kernel
theorem dX6_alter_36 : decode cX6_alter 36 = .ok (.iload_n 3, 1) := by decide +kernel
theorem dX6_alter_37 : decode cX6_alter 37 = .ok (.if_icmp .ne 6, 3) := by decide +kernel
theorem dX6_alter_40 : decode cX6_alter 40 = .ok (.bipush (-2), 2) := by decide +kernel
theorem dX6_alter_42 : decode cX6_alter 42 = .ok (.ireturn, 1) := by decide +kernel
theorem dX6_alter_43 : decode cX6_alter 43 = .ok (.aload_n 0, 1) := by decide +kernel
theorem dX6_alter_44 : decode cX6_alter 44 = .ok (.invokevirtual 92, 3) := by decide +kernel
theorem dX6_alter_47 : decode cX6_alter 47 = .ok (.aload_n 0, 1) := by decide +kernel
theorem dX6_alter_48 : decode cX6_alter 48 = .ok (.getfield 21, 3) := by decide +kernel
theorem dX6_alter_51 : decode cX6_alter 51 = .ok (.getfield 108, 3) := by decide +kernel
theorem dX6_alter_54 : decode cX6_alter 54 = .ok (.iload_n 1, 1) := by decide +kernel
theorem dX6_alter_55 : decode cX6_alter 55 = .ok (.iload_n 2, 1) := by decide +kernel
theorem dX6_alter_56 : decode cX6_alter 56 = .ok (.invokevirtual 57, 3) := by decide +kernel
theorem dX6_alter_59 : decode cX6_alter 59 = .ok (.iload_n 3, 1) := by decide +kernel
theorem dX6_alter_60 : decode cX6_alter 60 = .ok (.ireturn, 1) := by decide +kernel
theorem dX6_undo_0 : decode cX6_undo 0 = .ok (.aload_n 0, 1) := by decide +kernel
theorem dX6_undo_1 : decode cX6_undo 1 = .ok (.getfield 28, 3) := by decide +kernel
theorem dX6_undo_4 : decode cX6_undo 4 = .ok (.getfield 114, 3) := by decide +kernel
theorem dX6_undo_7 : decode cX6_undo 7 = .ok (.ifCond .ne 6, 3) := by decide +kernel
theorem dX6_undo_10 : decode cX6_undo 10 = .ok (.bipush (-2), 2) := by decide +kernel
theorem dX6_undo_12 : decode cX6_undo 12 = .ok (.ireturn, 1) := by decide +kernel
theorem dX6_undo_13 : decode cX6_undo 13 = .ok (.aload_n 0, 1) := by decide +kernel
theorem dX6_undo_14 : decode cX6_undo 14 = .ok (.getfield 28, 3) := by decide +kernel
theorem dX6_undo_17 : decode cX6_undo 17 = .ok (.aload_n 0, 1) := by decide +kernel
theorem dX6_undo_18 : decode cX6_undo 18 = .ok (.getfield 21, 3) := by decide +kernel
theorem dX6_undo_21 : decode cX6_undo 21 = .ok (.invokevirtual 117, 3) := by decide +kernel
theorem dX6_undo_24 : decode cX6_undo 24 = .ok (.aload_n 0, 1) := by decide +kernel
theorem dX6_undo_25 : decode cX6_undo 25 = .ok (.invokevirtual 80, 3) := by decide +kernel
theorem dX6_undo_28 : decode cX6_undo 28 = .ok (.aload_n 0, 1) := by decide +kernel
theorem dX6_undo_29 : decode cX6_undo 29 = .ok (.getfield 28, 3) := by decide +kernel
theorem dX6_undo_32 : decode cX6_undo 32 = .ok (.getfield 114, 3) := by decide +kernel
theorem dX6_undo_35 : decode cX6_undo 35 = .ok (.ireturn, 1) := by decide +kernel
theorem dX6_sign_0 : decode cX6_sign 0 = .ok (.iload_n 1, 1) := by decide +kernel
theorem dX6_sign_1 : decode cX6_sign 1 = .ok (.aload_n 0, 1) := by decide +kernel
theorem dX6_sign_2 : decode cX6_sign 2 = .ok (.getfield 21, 3) := by decide +kernel
theorem dX6_sign_5 : decode cX6_sign 5 = .ok (.getfield 83, 3) := by decide +kernel
theorem dX6_sign_8 : decode cX6_sign 8 = .ok (.invokestatic 95, 3) := by decide +kernel
theorem dX6_sign_11 : decode cX6_sign 11 = .ok (.ifCond .eq 17, 3) := by decide +kernel
theorem dX6_sign_14 : decode cX6_sign 14 = .ok (.aload_n 0, 1) := by decide +kernel
theorem dX6_sign_15 : decode cX6_sign 15 = .ok (.getfield 21, 3) := by decide +kernel
theorem dX6_sign_18 : decode cX6_sign 18 = .ok (.getfield 108, 3) := by decide +kernel
theorem dX6_sign_21 : decode cX6_sign 21 = .ok (.iload_n 1, 1) := by decide +kernel
theorem dX6_sign_22 : decode cX6_sign 22 = .ok (.invokevirtual 61, 3) := by decide +kernel
theorem dX6_sign_25 : decode cX6_sign 25 = .ok (.goto 4, 3) := by decide +kernel
theorem dX6_sign_28 : decode cX6_sign 28 = .ok (.iconst (-1), 1) := by decide +kernel
theorem dX6_sign_29 : decode cX6_sign 29 = .ok (.ireturn, 1) := by decide +kernel
theorem dX6_kind_0 : decode cX6_kind 0 = .ok (.iload_n 1, 1) := by decide +kernel
theorem dX6_kind_1 : decode cX6_kind 1 = .ok (.aload_n 0, 1) := by decide +kernel
theorem dX6_kind_2 : decode cX6_kind 2 = .ok (.getfield 21, 3) := by decide +kernel
theorem dX6_kind_5 : decode cX6_kind 5 = .ok (.getfield 83, 3) := by decide +kernel
theorem dX6_kind_8 : decode cX6_kind 8 = .ok (.invokestatic 95, 3) := by decide +kernel
theorem dX6_kind_11 : decode cX6_kind 11 = .ok (.ifCond .eq 17, 3) := by decide +kernel
theorem dX6_kind_14 : decode cX6_kind 14 = .ok (.aload_n 0, 1) := by decide +kernel
theorem dX6_kind_15 : decode cX6_kind 15 = .ok (.invokevirtual 121, 3) := by decide +kernel
theorem dX6_kind_18 : decode cX6_kind 18 = .ok (.getfield 125, 3) := by decide +kernel
theorem dX6_kind_21 : decode cX6_kind 21 = .ok (.iload_n 1, 1) := by decide +kernel
theorem dX6_kind_22 : decode cX6_kind 22 = .ok (.invokevirtual 61, 3) := by decide +kernel
theorem dX6_kind_25 : decode cX6_kind 25 = .ok (.goto 4, 3) := by decide +kernel
theorem dX6_kind_28 : decode cX6_kind 28 = .ok (.iconst (-1), 1) := by decide +kernel
theorem dX6_kind_29 : decode cX6_kind 29 = .ok (.ireturn, 1) := by decide +kernel
theorem dX6_depth_0 : decode cX6_depth 0 = .ok (.iload_n 1, 1) := by decide +kernel
theorem dX6_depth_1 : decode cX6_depth 1 = .ok (.aload_n 0, 1) := by decide +kernel
theorem dX6_depth_2 : decode cX6_depth 2 = .ok (.getfield 21, 3) := by decide +kernel
theorem dX6_depth_5 : decode cX6_depth 5 = .ok (.getfield 83, 3) := by decide +kernel
theorem dX6_depth_8 : decode cX6_depth 8 = .ok (.invokestatic 95, 3) := by decide +kernel
theorem dX6_depth_11 : decode cX6_depth 11 = .ok (.ifCond .eq 17, 3) := by decide +kernel
theorem dX6_depth_14 : decode cX6_depth 14 = .ok (.aload_n 0, 1) := by decide +kernel
theorem dX6_depth_15 : decode cX6_depth 15 = .ok (.invokevirtual 121, 3) := by decide +kernel
theorem dX6_depth_18 : decode cX6_depth 18 = .ok (.getfield 128, 3) := by decide +kernel
theorem dX6_depth_21 : decode cX6_depth 21 = .ok (.iload_n 1, 1) := by decide +kernel
theorem dX6_depth_22 : decode cX6_depth 22 = .ok (.invokevirtual 61, 3) := by decide +kernel
theorem dX6_depth_25 : decode cX6_depth 25 = .ok (.goto 4, 3) := by decide +kernel
theorem dX6_depth_28 : decode cX6_depth 28 = .ok (.iconst (-1), 1) := by decide +kernel
theorem dX6_depth_29 : decode cX6_depth 29 = .ok (.ireturn, 1) := by decide +kernel
theorem dX6_partner_0 : decode cX6_partner 0 = .ok (.iload_n 1, 1) := by decide +kernel
theorem dX6_partner_1 : decode cX6_partner 1 = .ok (.aload_n 0, 1) := by decide +kernel
theorem dX6_partner_2 : decode cX6_partner 2 = .ok (.getfield 21, 3) := by decide +kernel
theorem dX6_partner_5 : decode cX6_partner 5 = .ok (.getfield 83, 3) := by decide +kernel
theorem dX6_partner_8 : decode cX6_partner 8 = .ok (.invokestatic 95, 3) := by decide +kernel
theorem dX6_partner_11 : decode cX6_partner 11 = .ok (.ifCond .ne 5, 3) := by decide +kernel
theorem dX6_partner_14 : decode cX6_partner 14 = .ok (.iconst (-1), 1) := by decide +kernel
theorem dX6_partner_15 : decode cX6_partner 15 = .ok (.ireturn, 1) := by decide +kernel
theorem dX6_partner_16 : decode cX6_partner 16 = .ok (.aload_n 0, 1) := by decide +kernel
theorem dX6_partner_17 : decode cX6_partner 17 = .ok (.invokevirtual 121, 3) := by decide +kernel
theorem dX6_partner_20 : decode cX6_partner 20 = .ok (.getfield 125, 3) := by decide +kernel
theorem dX6_partner_23 : decode cX6_partner 23 = .ok (.iload_n 1, 1) := by decide +kernel
theorem dX6_partner_24 : decode cX6_partner 24 = .ok (.invokevirtual 61, 3) := by decide +kernel
theorem dX6_partner_27 : decode cX6_partner 27 = .ok (.istore_n 2, 1) := by decide +kernel
theorem dX6_partner_28 : decode cX6_partner 28 = .ok (.iload_n 2, 1) := by decide +kernel
theorem dX6_partner_29 : decode cX6_partner 29 = .ok (.iconst 3, 1) := by decide +kernel
theorem dX6_partner_30 : decode cX6_partner 30 = .ok (.if_icmp .eq 8, 3) := by decide +kernel
theorem dX6_partner_33 : decode cX6_partner 33 = .ok (.iload_n 2, 1) := by decide +kernel
theorem dX6_partner_34 : decode cX6_partner 34 = .ok (.iconst 4, 1) := by decide +kernel
theorem dX6_partner_35 : decode cX6_partner 35 = .ok (.if_icmp .ne 17, 3) := by decide +kernel
theorem dX6_partner_38 : decode cX6_partner 38 = .ok (.aload_n 0, 1) := by decide +kernel
theorem dX6_partner_39 : decode cX6_partner 39 = .ok (.getfield 35, 3) := by decide +kernel
theorem dX6_partner_42 : decode cX6_partner 42 = .ok (.getfield 131, 3) := by decide +kernel
theorem dX6_partner_45 : decode cX6_partner 45 = .ok (.iload_n 1, 1) := by decide +kernel
theorem dX6_partner_46 : decode cX6_partner 46 = .ok (.invokevirtual 61, 3) := by decide +kernel
theorem dX6_partner_49 : decode cX6_partner 49 = .ok (.goto 5, 3) := by decide +kernel
theorem dX6_partner_52 : decode cX6_partner 52 = .ok (.bipush (-2), 2) := by decide +kernel
theorem dX6_partner_54 : decode cX6_partner 54 = .ok (.ireturn, 1) := by decide +kernel
theorem dX6_wrong_0 : decode cX6_wrong 0 = .ok (.iload_n 1, 1) := by decide +kernel
theorem dX6_wrong_1 : decode cX6_wrong 1 = .ok (.iconst (-1), 1) := by decide +kernel
theorem dX6_wrong_2 : decode cX6_wrong 2 = .ok (.if_icmp .lt 11, 3) := by decide +kernel
theorem dX6_wrong_5 : decode cX6_wrong 5 = .ok (.iload_n 2, 1) := by decide +kernel
theorem dX6_wrong_6 : decode cX6_wrong 6 = .ok (.iconst 2, 1) := by decide +kernel
theorem dX6_wrong_7 : decode cX6_wrong 7 = .ok (.invokestatic 95, 3) := by decide +kernel
theorem dX6_wrong_10 : decode cX6_wrong 10 = .ok (.ifCond .ne 5, 3) := by decide +kernel
theorem dX6_wrong_13 : decode cX6_wrong 13 = .ok (.iconst (-1), 1) := by decide +kernel
theorem dX6_wrong_14 : decode cX6_wrong 14 = .ok (.ireturn, 1) := by decide +kernel
theorem dX6_wrong_15 : decode cX6_wrong 15 = .ok (.aload_n 0, 1) := by decide +kernel
theorem dX6_wrong_16 : decode cX6_wrong 16 = .ok (.invokevirtual 121, 3) := by decide +kernel
theorem dX6_wrong_19 : decode cX6_wrong 19 = .ok (.getfield 134, 3) := by decide +kernel
theorem dX6_wrong_22 : decode cX6_wrong 22 = .ok (.aload_n 0, 1) := by decide +kernel
theorem dX6_wrong_23 : decode cX6_wrong 23 = .ok (.getfield 35, 3) := by decide +kernel
theorem dX6_wrong_26 : decode cX6_wrong 26 = .ok (.getfield 137, 3) := by decide +kernel
theorem dX6_wrong_29 : decode cX6_wrong 29 = .ok (.iconst 2, 1) := by decide +kernel
theorem dX6_wrong_30 : decode cX6_wrong 30 = .ok (.iload_n 1, 1) := by decide +kernel
theorem dX6_wrong_31 : decode cX6_wrong 31 = .ok (.iload_n 2, 1) := by decide +kernel
theorem dX6_wrong_32 : decode cX6_wrong 32 = .ok (.invokestatic 140, 3) := by decide +kernel
theorem dX6_wrong_35 : decode cX6_wrong 35 = .ok (.ireturn, 1) := by decide +kernel
theorem dX6_quote_0 : decode cX6_quote 0 = .ok (.iload_n 1, 1) := by decide +kernel
theorem dX6_quote_1 : decode cX6_quote 1 = .ok (.iconst (-1), 1) := by decide +kernel
theorem dX6_quote_2 : decode cX6_quote 2 = .ok (.if_icmp .lt 12, 3) := by decide +kernel
theorem dX6_quote_5 : decode cX6_quote 5 = .ok (.iload_n 2, 1) := by decide +kernel
theorem dX6_quote_6 : decode cX6_quote 6 = .ok (.bipush 7, 2) := by decide +kernel
theorem dX6_quote_8 : decode cX6_quote 8 = .ok (.invokestatic 95, 3) := by decide +kernel
theorem dX6_quote_11 : decode cX6_quote 11 = .ok (.ifCond .ne 5, 3) := by decide +kernel
theorem dX6_quote_14 : decode cX6_quote 14 = .ok (.iconst (-1), 1) := by decide +kernel
theorem dX6_quote_15 : decode cX6_quote 15 = .ok (.ireturn, 1) := by decide +kernel
theorem dX6_quote_16 : decode cX6_quote 16 = .ok (.aload_n 0, 1) := by decide +kernel
theorem dX6_quote_17 : decode cX6_quote 17 = .ok (.invokevirtual 121, 3) := by decide +kernel
theorem dX6_quote_20 : decode cX6_quote 20 = .ok (.getfield 144, 3) := by decide +kernel
theorem dX6_quote_23 : decode cX6_quote 23 = .ok (.aload_n 0, 1) := by decide +kernel
theorem dX6_quote_24 : decode cX6_quote 24 = .ok (.getfield 35, 3) := by decide +kernel
theorem dX6_quote_27 : decode cX6_quote 27 = .ok (.getfield 147, 3) := by decide +kernel
theorem dX6_quote_30 : decode cX6_quote 30 = .ok (.bipush 7, 2) := by decide +kernel
theorem dX6_quote_32 : decode cX6_quote 32 = .ok (.iload_n 1, 1) := by decide +kernel
theorem dX6_quote_33 : decode cX6_quote 33 = .ok (.iload_n 2, 1) := by decide +kernel
theorem dX6_quote_34 : decode cX6_quote 34 = .ok (.invokestatic 140, 3) := by decide +kernel
theorem dX6_quote_37 : decode cX6_quote 37 = .ok (.ireturn, 1) := by decide +kernel
theorem dX6_said_0 : decode cX6_said 0 = .ok (.iload_n 1, 1) := by decide +kernel
theorem dX6_said_1 : decode cX6_said 1 = .ok (.ifCond .lt 23, 3) := by decide +kernel
theorem dX6_said_4 : decode cX6_said 4 = .ok (.iload_n 1, 1) := by decide +kernel
theorem dX6_said_5 : decode cX6_said 5 = .ok (.bipush 6, 2) := by decide +kernel
theorem dX6_said_7 : decode cX6_said 7 = .ok (.if_icmp .gt 17, 3) := by decide +kernel
theorem dX6_said_10 : decode cX6_said 10 = .ok (.aload_n 0, 1) := by decide +kernel
theorem dX6_said_11 : decode cX6_said 11 = .ok (.invokevirtual 121, 3) := by decide +kernel
theorem dX6_said_14 : decode cX6_said 14 = .ok (.getfield 150, 3) := by decide +kernel
theorem dX6_said_17 : decode cX6_said 17 = .ok (.iload_n 1, 1) := by decide +kernel
theorem dX6_said_18 : decode cX6_said 18 = .ok (.invokevirtual 61, 3) := by decide +kernel
theorem dX6_said_21 : decode cX6_said 21 = .ok (.goto 4, 3) := by decide +kernel
theorem dX6_said_24 : decode cX6_said 24 = .ok (.iconst (-1), 1) := by decide +kernel
theorem dX6_said_25 : decode cX6_said 25 = .ok (.ireturn, 1) := by decide +kernel
theorem dX6_paragraph_0 : decode cX6_paragraph 0 = .ok (.iload_n 1, 1) := by decide +kernel
theorem dX6_paragraph_1 : decode cX6_paragraph 1 = .ok (.iconst (-1), 1) := by decide +kernel
theorem dX6_paragraph_2 : decode cX6_paragraph 2 = .ok (.if_icmp .lt 11, 3) := by decide +kernel
theorem dX6_paragraph_5 : decode cX6_paragraph 5 = .ok (.iload_n 2, 1) := by decide +kernel
theorem dX6_paragraph_6 : decode cX6_paragraph 6 = .ok (.iconst 3, 1) := by decide +kernel
theorem dX6_paragraph_7 : decode cX6_paragraph 7 = .ok (.invokestatic 95, 3) := by decide +kernel
theorem dX6_paragraph_10 : decode cX6_paragraph 10 = .ok (.ifCond .ne 5, 3) := by decide +kernel
theorem dX6_paragraph_13 : decode cX6_paragraph 13 = .ok (.iconst (-1), 1) := by decide +kernel
theorem dX6_paragraph_14 : decode cX6_paragraph 14 = .ok (.ireturn, 1) := by decide +kernel
theorem dX6_paragraph_15 : decode cX6_paragraph 15 = .ok (.aload_n 0, 1) := by decide +kernel
theorem dX6_paragraph_16 : decode cX6_paragraph 16 = .ok (.invokevirtual 121, 3) := by decide +kernel
theorem dX6_paragraph_19 : decode cX6_paragraph 19 = .ok (.getfield 153, 3) := by decide +kernel
theorem dX6_paragraph_22 : decode cX6_paragraph 22 = .ok (.aload_n 0, 1) := by decide +kernel
theorem dX6_paragraph_23 : decode cX6_paragraph 23 = .ok (.getfield 35, 3) := by decide +kernel
theorem dX6_paragraph_26 : decode cX6_paragraph 26 = .ok (.getfield 156, 3) := by decide +kernel
theorem dX6_paragraph_29 : decode cX6_paragraph 29 = .ok (.iconst 3, 1) := by decide +kernel
theorem dX6_paragraph_30 : decode cX6_paragraph 30 = .ok (.iload_n 1, 1) := by decide +kernel
theorem dX6_paragraph_31 : decode cX6_paragraph 31 = .ok (.iload_n 2, 1) := by decide +kernel
theorem dX6_paragraph_32 : decode cX6_paragraph 32 = .ok (.invokestatic 140, 3) := by decide +kernel
theorem dX6_paragraph_35 : decode cX6_paragraph 35 = .ok (.ireturn, 1) := by decide +kernel
theorem dX6_least_0 : decode cX6_least 0 = .ok (.aload_n 0, 1) := by decide +kernel
theorem dX6_least_1 : decode cX6_least 1 = .ok (.invokevirtual 159, 3) := by decide +kernel
theorem dX6_least_4 : decode cX6_least 4 = .ok (.invokevirtual 163, 3) := by decide +kernel
theorem dX6_least_7 : decode cX6_least 7 = .ok (.ireturn, 1) := by decide +kernel
theorem dX6_changes_0 : decode cX6_changes 0 = .ok (.iload_n 1, 1) := by decide +kernel
theorem dX6_changes_1 : decode cX6_changes 1 = .ok (.iconst 3, 1) := by decide +kernel
theorem dX6_changes_2 : decode cX6_changes 2 = .ok (.invokestatic 95, 3) := by decide +kernel
theorem dX6_changes_5 : decode cX6_changes 5 = .ok (.ifCond .eq 17, 3) := by decide +kernel
theorem dX6_changes_8 : decode cX6_changes 8 = .ok (.aload_n 0, 1) := by decide +kernel
theorem dX6_changes_9 : decode cX6_changes 9 = .ok (.invokevirtual 159, 3) := by decide +kernel
theorem dX6_changes_12 : decode cX6_changes 12 = .ok (.getfield 166, 3) := by decide +kernel
theorem dX6_changes_15 : decode cX6_changes 15 = .ok (.iload_n 1, 1) := by decide +kernel
theorem dX6_changes_16 : decode cX6_changes 16 = .ok (.invokevirtual 61, 3) := by decide +kernel
theorem dX6_changes_19 : decode cX6_changes 19 = .ok (.goto 4, 3) := by decide +kernel
theorem dX6_changes_22 : decode cX6_changes 22 = .ok (.iconst (-1), 1) := by decide +kernel
theorem dX6_changes_23 : decode cX6_changes 23 = .ok (.ireturn, 1) := by decide +kernel
theorem dX6_mended_0 : decode cX6_mended 0 = .ok (.iload_n 1, 1) := by decide +kernel
theorem dX6_mended_1 : decode cX6_mended 1 = .ok (.iconst (-1), 1) := by decide +kernel
theorem dX6_mended_2 : decode cX6_mended 2 = .ok (.if_icmp .ge 5, 3) := by decide +kernel
theorem dX6_mended_5 : decode cX6_mended 5 = .ok (.iconst (-1), 1) := by decide +kernel
theorem dX6_mended_6 : decode cX6_mended 6 = .ok (.ireturn, 1) := by decide +kernel
theorem dX6_mended_7 : decode cX6_mended 7 = .ok (.aload_n 0, 1) := by decide +kernel
theorem dX6_mended_8 : decode cX6_mended 8 = .ok (.invokevirtual 159, 3) := by decide +kernel
theorem dX6_mended_11 : decode cX6_mended 11 = .ok (.getfield 169, 3) := by decide +kernel
theorem dX6_mended_14 : decode cX6_mended 14 = .ok (.aload_n 0, 1) := by decide +kernel
theorem dX6_mended_15 : decode cX6_mended 15 = .ok (.getfield 42, 3) := by decide +kernel
theorem dX6_mended_18 : decode cX6_mended 18 = .ok (.getfield 172, 3) := by decide +kernel
theorem dX6_mended_21 : decode cX6_mended 21 = .ok (.iconst 1, 1) := by decide +kernel
theorem dX6_mended_22 : decode cX6_mended 22 = .ok (.iload_n 1, 1) := by decide +kernel
theorem dX6_mended_23 : decode cX6_mended 23 = .ok (.iconst 0, 1) := by decide +kernel
theorem dX6_mended_24 : decode cX6_mended 24 = .ok (.invokestatic 140, 3) := by decide +kernel
theorem dX6_mended_27 : decode cX6_mended 27 = .ok (.ireturn, 1) := by decide +kernel
theorem dX6_mend_0 : decode cX6_mend 0 = .ok (.aload_n 0, 1) := by decide +kernel
theorem dX6_mend_1 : decode cX6_mend 1 = .ok (.invokevirtual 121, 3) := by decide +kernel
theorem dX6_mend_4 : decode cX6_mend 4 = .ok (.getfield 137, 3) := by decide +kernel
theorem dX6_mend_7 : decode cX6_mend 7 = .ok (.ifCond .ne 6, 3) := by decide +kernel
theorem dX6_mend_10 : decode cX6_mend 10 = .ok (.bipush (-2), 2) := by decide +kernel
theorem dX6_mend_12 : decode cX6_mend 12 = .ok (.ireturn, 1) := by decide +kernel
theorem dX6_mend_13 : decode cX6_mend 13 = .ok (.aload_n 0, 1) := by decide +kernel
theorem dX6_mend_14 : decode cX6_mend 14 = .ok (.invokevirtual 159, 3) := by decide +kernel
theorem dX6_mend_17 : decode cX6_mend 17 = .ok (.invokevirtual 163, 3) := by decide +kernel
theorem dX6_mend_20 : decode cX6_mend 20 = .ok (.istore_n 1, 1) := by decide +kernel
theorem dX6_mend_21 : decode cX6_mend 21 = .ok (.aload_n 0, 1) := by decide +kernel
theorem dX6_mend_22 : decode cX6_mend 22 = .ok (.getfield 42, 3) := by decide +kernel
theorem dX6_mend_25 : decode cX6_mend 25 = .ok (.getfield 172, 3) := by decide +kernel
theorem dX6_mend_28 : decode cX6_mend 28 = .ok (.bipush 120, 2) := by decide +kernel
theorem dX6_mend_30 : decode cX6_mend 30 = .ok (.if_icmp .le 6, 3) := by decide +kernel
theorem dX6_mend_33 : decode cX6_mend 33 = .ok (.bipush (-3), 2) := by decide +kernel
theorem dX6_mend_35 : decode cX6_mend 35 = .ok (.ireturn, 1) := by decide +kernel
theorem dX6_mend_36 : decode cX6_mend 36 = .ok (.aload_n 0, 1) := by decide +kernel
theorem dX6_mend_37 : decode cX6_mend 37 = .ok (.invokevirtual 92, 3) := by decide +kernel
theorem dX6_mend_40 : decode cX6_mend 40 = .ok (.aload_n 0, 1) := by decide +kernel
theorem dX6_mend_41 : decode cX6_mend 41 = .ok (.getfield 21, 3) := by decide +kernel
theorem dX6_mend_44 : decode cX6_mend 44 = .ok (.aload_n 0, 1) := by decide +kernel
theorem dX6_mend_45 : decode cX6_mend 45 = .ok (.getfield 42, 3) := by decide +kernel
theorem dX6_mend_48 : decode cX6_mend 48 = .ok (.getfield 169, 3) := by decide +kernel
theorem dX6_mend_51 : decode cX6_mend 51 = .ok (.aload_n 0, 1) := by decide +kernel
theorem dX6_mend_52 : decode cX6_mend 52 = .ok (.getfield 42, 3) := by decide +kernel
theorem dX6_mend_55 : decode cX6_mend 55 = .ok (.getfield 172, 3) := by decide +kernel
theorem dX6_mend_58 : decode cX6_mend 58 = .ok (.invokevirtual 73, 3) := by decide +kernel
theorem dX6_mend_61 : decode cX6_mend 61 = .ok (.iload_n 1, 1) := by decide +kernel
theorem dX6_mend_62 : decode cX6_mend 62 = .ok (.ireturn, 1) := by decide +kernel
theorem dX6_would_0 : decode cX6_would 0 = .ok (.iload_n 1, 1) := by decide +kernel
theorem dX6_would_1 : decode cX6_would 1 = .ok (.iconst 4, 1) := by decide +kernel
theorem dX6_would_2 : decode cX6_would 2 = .ok (.invokestatic 95, 3) := by decide +kernel
theorem dX6_would_5 : decode cX6_would 5 = .ok (.ifCond .eq 11, 3) := by decide +kernel
theorem dX6_would_8 : decode cX6_would 8 = .ok (.iload_n 2, 1) := by decide +kernel
theorem dX6_would_9 : decode cX6_would 9 = .ok (.iconst 3, 1) := by decide +kernel
theorem dX6_would_10 : decode cX6_would 10 = .ok (.invokestatic 95, 3) := by decide +kernel
theorem dX6_would_13 : decode cX6_would 13 = .ok (.ifCond .ne 5, 3) := by decide +kernel
theorem dX6_would_16 : decode cX6_would 16 = .ok (.iconst (-1), 1) := by decide +kernel
theorem dX6_would_17 : decode cX6_would 17 = .ok (.ireturn, 1) := by decide +kernel
theorem dX6_would_18 : decode cX6_would 18 = .ok (.aload_n 0, 1) := by decide +kernel
theorem dX6_would_19 : decode cX6_would 19 = .ok (.getfield 42, 3) := by decide +kernel
theorem dX6_would_22 : decode cX6_would 22 = .ok (.aload_n 0, 1) := by decide +kernel
theorem dX6_would_23 : decode cX6_would 23 = .ok (.getfield 21, 3) := by decide +kernel
theorem dX6_would_26 : decode cX6_would 26 = .ok (.iload_n 1, 1) := by decide +kernel
theorem dX6_would_27 : decode cX6_would 27 = .ok (.iload_n 2, 1) := by decide +kernel
theorem dX6_would_28 : decode cX6_would 28 = .ok (.invokevirtual 173, 3) := by decide +kernel
theorem dX6_would_31 : decode cX6_would 31 = .ok (.aload_n 0, 1) := by decide +kernel
theorem dX6_would_32 : decode cX6_would 32 = .ok (.iconst 0, 1) := by decide +kernel
theorem dX6_would_33 : decode cX6_would 33 = .ok (.putfield 54, 3) := by decide +kernel
theorem dX6_would_36 : decode cX6_would 36 = .ok (.aload_n 0, 1) := by decide +kernel
theorem dX6_would_37 : decode cX6_would 37 = .ok (.getfield 42, 3) := by decide +kernel
theorem dX6_would_40 : decode cX6_would 40 = .ok (.invokevirtual 163, 3) := by decide +kernel
theorem dX6_would_43 : decode cX6_would 43 = .ok (.ireturn, 1) := by decide +kernel
theorem dX6_retell_0 : decode cX6_retell 0 = .ok (.iload_n 1, 1) := by decide +kernel
theorem dX6_retell_1 : decode cX6_retell 1 = .ok (.iconst 4, 1) := by decide +kernel
theorem dX6_retell_2 : decode cX6_retell 2 = .ok (.invokestatic 95, 3) := by decide +kernel
theorem dX6_retell_5 : decode cX6_retell 5 = .ok (.ifCond .ne 5, 3) := by decide +kernel
theorem dX6_retell_8 : decode cX6_retell 8 = .ok (.iconst (-1), 1) := by decide +kernel
theorem dX6_retell_9 : decode cX6_retell 9 = .ok (.ireturn, 1) := by decide +kernel
theorem dX6_retell_10 : decode cX6_retell 10 = .ok (.iload_n 1, 1) := by decide +kernel
theorem dX6_retell_11 : decode cX6_retell 11 = .ok (.aload_n 0, 1) := by decide +kernel
theorem dX6_retell_12 : decode cX6_retell 12 = .ok (.getfield 21, 3) := by decide +kernel
theorem dX6_retell_15 : decode cX6_retell 15 = .ok (.getfield 89, 3) := by decide +kernel
theorem dX6_retell_18 : decode cX6_retell 18 = .ok (.if_icmp .eq 13, 3) := by decide +kernel
theorem dX6_retell_21 : decode cX6_retell 21 = .ok (.aload_n 0, 1) := by decide +kernel
theorem dX6_retell_22 : decode cX6_retell 22 = .ok (.invokevirtual 121, 3) := by decide +kernel
theorem dX6_retell_25 : decode cX6_retell 25 = .ok (.getfield 137, 3) := by decide +kernel
theorem dX6_retell_28 : decode cX6_retell 28 = .ok (.ifCond .le 6, 3) := by decide +kernel
theorem dX6_retell_31 : decode cX6_retell 31 = .ok (.bipush (-2), 2) := by decide +kernel
theorem dX6_retell_33 : decode cX6_retell 33 = .ok (.ireturn, 1) := by decide +kernel
theorem dX6_retell_34 : decode cX6_retell 34 = .ok (.aload_n 0, 1) := by decide +kernel
theorem dX6_retell_35 : decode cX6_retell 35 = .ok (.invokevirtual 92, 3) := by decide +kernel
theorem dX6_retell_38 : decode cX6_retell 38 = .ok (.aload_n 0, 1) := by decide +kernel
theorem dX6_retell_39 : decode cX6_retell 39 = .ok (.getfield 21, 3) := by decide +kernel
theorem dX6_retell_42 : decode cX6_retell 42 = .ok (.getfield 89, 3) := by decide +kernel
theorem dX6_retell_45 : decode cX6_retell 45 = .ok (.istore_n 2, 1) := by decide +kernel
theorem dX6_retell_46 : decode cX6_retell 46 = .ok (.iconst 0, 1) := by decide +kernel
theorem dX6_retell_47 : decode cX6_retell 47 = .ok (.istore_n 3, 1) := by decide +kernel
theorem dX6_retell_48 : decode cX6_retell 48 = .ok (.iload_n 3, 1) := by decide +kernel
theorem dX6_retell_49 : decode cX6_retell 49 = .ok (.aload_n 0, 1) := by decide +kernel
theorem dX6_retell_50 : decode cX6_retell 50 = .ok (.getfield 21, 3) := by decide +kernel
theorem dX6_retell_53 : decode cX6_retell 53 = .ok (.getfield 83, 3) := by decide +kernel
theorem dX6_retell_56 : decode cX6_retell 56 = .ok (.if_icmp .ge 15, 3) := by decide +kernel
theorem dX6_retell_59 : decode cX6_retell 59 = .ok (.aload_n 0, 1) := by decide +kernel
theorem dX6_retell_60 : decode cX6_retell 60 = .ok (.iload_n 3, 1) := by decide +kernel
theorem dX6_retell_61 : decode cX6_retell 61 = .ok (.iload_n 1, 1) := by decide +kernel
theorem dX6_retell_62 : decode cX6_retell 62 = .ok (.invokevirtual 177, 3) := by decide +kernel
theorem dX6_retell_65 : decode cX6_retell 65 = .ok (.iinc 3 1, 3) := by decide +kernel
theorem dX6_retell_68 : decode cX6_retell 68 = .ok (.goto (-20), 3) := by decide +kernel
theorem dX6_retell_71 : decode cX6_retell 71 = .ok (.aload_n 0, 1) := by decide +kernel
theorem dX6_retell_72 : decode cX6_retell 72 = .ok (.getfield 21, 3) := by decide +kernel
theorem dX6_retell_75 : decode cX6_retell 75 = .ok (.iload_n 1, 1) := by decide +kernel
theorem dX6_retell_76 : decode cX6_retell 76 = .ok (.putfield 89, 3) := by decide +kernel
theorem dX6_retell_79 : decode cX6_retell 79 = .ok (.iload_n 2, 1) := by decide +kernel
theorem dX6_retell_80 : decode cX6_retell 80 = .ok (.ireturn, 1) := by decide +kernel
theorem dX6_count_0 : decode cX6_count 0 = .ok (.iload_n 1, 1) := by decide +kernel
theorem dX6_count_1 : decode cX6_count 1 = .ok (.tableswitch 159 0 10 #[59, 67, 75, 83, 91, 103, 115, 127, 132, 140, 148], 59) := by decide +kernel
theorem dX6_count_60 : decode cX6_count 60 = .ok (.aload_n 0, 1) := by decide +kernel
theorem dX6_count_61 : decode cX6_count 61 = .ok (.getfield 21, 3) := by decide +kernel
theorem dX6_count_64 : decode cX6_count 64 = .ok (.getfield 83, 3) := by decide +kernel
theorem dX6_count_67 : decode cX6_count 67 = .ok (.ireturn, 1) := by decide +kernel
theorem dX6_count_68 : decode cX6_count 68 = .ok (.aload_n 0, 1) := by decide +kernel
theorem dX6_count_69 : decode cX6_count 69 = .ok (.getfield 21, 3) := by decide +kernel
theorem dX6_count_72 : decode cX6_count 72 = .ok (.invokevirtual 180, 3) := by decide +kernel
theorem dX6_count_75 : decode cX6_count 75 = .ok (.ireturn, 1) := by decide +kernel
theorem dX6_count_76 : decode cX6_count 76 = .ok (.aload_n 0, 1) := by decide +kernel
theorem dX6_count_77 : decode cX6_count 77 = .ok (.getfield 21, 3) := by decide +kernel
theorem dX6_count_80 : decode cX6_count 80 = .ok (.getfield 89, 3) := by decide +kernel
theorem dX6_count_83 : decode cX6_count 83 = .ok (.ireturn, 1) := by decide +kernel
theorem dX6_count_84 : decode cX6_count 84 = .ok (.aload_n 0, 1) := by decide +kernel
theorem dX6_count_85 : decode cX6_count 85 = .ok (.getfield 21, 3) := by decide +kernel
theorem dX6_count_88 : decode cX6_count 88 = .ok (.getfield 99, 3) := by decide +kernel
theorem dX6_count_91 : decode cX6_count 91 = .ok (.ireturn, 1) := by decide +kernel
theorem dX6_count_92 : decode cX6_count 92 = .ok (.aload_n 0, 1) := by decide +kernel
theorem dX6_count_93 : decode cX6_count 93 = .ok (.getfield 21, 3) := by decide +kernel
theorem dX6_count_96 : decode cX6_count 96 = .ok (.getfield 102, 3) := by decide +kernel
theorem dX6_count_99 : decode cX6_count 99 = .ok (.iconst 0, 1) := by decide +kernel
theorem dX6_count_100 : decode cX6_count 100 = .ok (.invokevirtual 61, 3) := by decide +kernel
theorem dX6_count_103 : decode cX6_count 103 = .ok (.ireturn, 1) := by decide +kernel
theorem dX6_count_104 : decode cX6_count 104 = .ok (.aload_n 0, 1) := by decide +kernel
theorem dX6_count_105 : decode cX6_count 105 = .ok (.getfield 21, 3) := by decide +kernel
theorem dX6_count_108 : decode cX6_count 108 = .ok (.getfield 102, 3) := by decide +kernel
theorem dX6_count_111 : decode cX6_count 111 = .ok (.iconst 1, 1) := by decide +kernel
theorem dX6_count_112 : decode cX6_count 112 = .ok (.invokevirtual 61, 3) := by decide +kernel
theorem dX6_count_115 : decode cX6_count 115 = .ok (.ireturn, 1) := by decide +kernel
theorem dX6_count_116 : decode cX6_count 116 = .ok (.aload_n 0, 1) := by decide +kernel
theorem dX6_count_117 : decode cX6_count 117 = .ok (.getfield 21, 3) := by decide +kernel
theorem dX6_count_120 : decode cX6_count 120 = .ok (.getfield 102, 3) := by decide +kernel
theorem dX6_count_123 : decode cX6_count 123 = .ok (.iconst 2, 1) := by decide +kernel
theorem dX6_count_124 : decode cX6_count 124 = .ok (.invokevirtual 61, 3) := by decide +kernel
theorem dX6_count_127 : decode cX6_count 127 = .ok (.ireturn, 1) := by decide +kernel
theorem dX6_count_128 : decode cX6_count 128 = .ok (.aload_n 0, 1) := by decide +kernel
theorem dX6_count_129 : decode cX6_count 129 = .ok (.getfield 46, 3) := by decide +kernel
theorem dX6_count_132 : decode cX6_count 132 = .ok (.ireturn, 1) := by decide +kernel
theorem dX6_count_133 : decode cX6_count 133 = .ok (.aload_n 0, 1) := by decide +kernel
theorem dX6_count_134 : decode cX6_count 134 = .ok (.getfield 28, 3) := by decide +kernel
theorem dX6_count_137 : decode cX6_count 137 = .ok (.getfield 114, 3) := by decide +kernel
theorem dX6_count_140 : decode cX6_count 140 = .ok (.ireturn, 1) := by decide +kernel
theorem dX6_count_141 : decode cX6_count 141 = .ok (.aload_n 0, 1) := by decide +kernel
theorem dX6_count_142 : decode cX6_count 142 = .ok (.invokevirtual 121, 3) := by decide +kernel
theorem dX6_count_145 : decode cX6_count 145 = .ok (.getfield 183, 3) := by decide +kernel
theorem dX6_count_148 : decode cX6_count 148 = .ok (.ireturn, 1) := by decide +kernel
theorem dX6_count_149 : decode cX6_count 149 = .ok (.aload_n 0, 1) := by decide +kernel
theorem dX6_count_150 : decode cX6_count 150 = .ok (.invokevirtual 121, 3) := by decide +kernel
theorem dX6_count_153 : decode cX6_count 153 = .ok (.getfield 186, 3) := by decide +kernel
theorem dX6_count_156 : decode cX6_count 156 = .ok (.invokestatic 189, 3) := by decide +kernel
theorem dX6_count_159 : decode cX6_count 159 = .ok (.ireturn, 1) := by decide +kernel
theorem dX6_count_160 : decode cX6_count 160 = .ok (.iconst (-1), 1) := by decide +kernel
theorem dX6_count_161 : decode cX6_count 161 = .ok (.ireturn, 1) := by decide +kernel
theorem dX6_beginChange_0 : decode cX6_beginChange 0 = .ok (.aload_n 0, 1) := by decide +kernel
theorem dX6_beginChange_1 : decode cX6_beginChange 1 = .ok (.getfield 28, 3) := by decide +kernel
theorem dX6_beginChange_4 : decode cX6_beginChange 4 = .ok (.aload_n 0, 1) := by decide +kernel
theorem dX6_beginChange_5 : decode cX6_beginChange 5 = .ok (.getfield 21, 3) := by decide +kernel
theorem dX6_beginChange_8 : decode cX6_beginChange 8 = .ok (.invokevirtual 194, 3) := by decide +kernel
theorem dX6_beginChange_11 : decode cX6_beginChange 11 = .ok (.aload_n 0, 1) := by decide +kernel
theorem dX6_beginChange_12 : decode cX6_beginChange 12 = .ok (.invokevirtual 80, 3) := by decide +kernel
theorem dX6_beginChange_15 : decode cX6_beginChange 15 = .ok (.return_, 1) := by decide +kernel
theorem dX6_outdate_0 : decode cX6_outdate 0 = .ok (.aload_n 0, 1) := by decide +kernel
theorem dX6_outdate_1 : decode cX6_outdate 1 = .ok (.iconst 0, 1) := by decide +kernel
theorem dX6_outdate_2 : decode cX6_outdate 2 = .ok (.putfield 50, 3) := by decide +kernel
theorem dX6_outdate_5 : decode cX6_outdate 5 = .ok (.aload_n 0, 1) := by decide +kernel
theorem dX6_outdate_6 : decode cX6_outdate 6 = .ok (.iconst 0, 1) := by decide +kernel
theorem dX6_outdate_7 : decode cX6_outdate 7 = .ok (.putfield 54, 3) := by decide +kernel
theorem dX6_outdate_10 : decode cX6_outdate 10 = .ok (.return_, 1) := by decide +kernel
theorem dX6_freshReading_0 : decode cX6_freshReading 0 = .ok (.aload_n 0, 1) := by decide +kernel
theorem dX6_freshReading_1 : decode cX6_freshReading 1 = .ok (.getfield 50, 3) := by decide +kernel
theorem dX6_freshReading_4 : decode cX6_freshReading 4 = .ok (.ifCond .ne 19, 3) := by decide +kernel
theorem dX6_freshReading_7 : decode cX6_freshReading 7 = .ok (.aload_n 0, 1) := by decide +kernel
theorem dX6_freshReading_8 : decode cX6_freshReading 8 = .ok (.getfield 35, 3) := by decide +kernel
theorem dX6_freshReading_11 : decode cX6_freshReading 11 = .ok (.aload_n 0, 1) := by decide +kernel
theorem dX6_freshReading_12 : decode cX6_freshReading 12 = .ok (.getfield 21, 3) := by decide +kernel
theorem dX6_freshReading_15 : decode cX6_freshReading 15 = .ok (.invokevirtual 197, 3) := by decide +kernel
theorem dX6_freshReading_18 : decode cX6_freshReading 18 = .ok (.aload_n 0, 1) := by decide +kernel
theorem dX6_freshReading_19 : decode cX6_freshReading 19 = .ok (.iconst 1, 1) := by decide +kernel
theorem dX6_freshReading_20 : decode cX6_freshReading 20 = .ok (.putfield 50, 3) := by decide +kernel
theorem dX6_freshReading_23 : decode cX6_freshReading 23 = .ok (.aload_n 0, 1) := by decide +kernel
theorem dX6_freshReading_24 : decode cX6_freshReading 24 = .ok (.getfield 35, 3) := by decide +kernel
theorem dX6_freshReading_27 : decode cX6_freshReading 27 = .ok (.areturn, 1) := by decide +kernel
theorem dX6_freshMending_0 : decode cX6_freshMending 0 = .ok (.aload_n 0, 1) := by decide +kernel
theorem dX6_freshMending_1 : decode cX6_freshMending 1 = .ok (.getfield 54, 3) := by decide +kernel
theorem dX6_freshMending_4 : decode cX6_freshMending 4 = .ok (.ifCond .ne 40, 3) := by decide +kernel
theorem dX6_freshMending_7 : decode cX6_freshMending 7 = .ok (.aload_n 0, 1) := by decide +kernel
theorem dX6_freshMending_8 : decode cX6_freshMending 8 = .ok (.getfield 42, 3) := by decide +kernel
theorem dX6_freshMending_11 : decode cX6_freshMending 11 = .ok (.aload_n 0, 1) := by decide +kernel
theorem dX6_freshMending_12 : decode cX6_freshMending 12 = .ok (.getfield 21, 3) := by decide +kernel
theorem dX6_freshMending_15 : decode cX6_freshMending 15 = .ok (.aload_n 0, 1) := by decide +kernel
theorem dX6_freshMending_16 : decode cX6_freshMending 16 = .ok (.getfield 21, 3) := by decide +kernel
theorem dX6_freshMending_19 : decode cX6_freshMending 19 = .ok (.getfield 89, 3) := by decide +kernel
theorem dX6_freshMending_22 : decode cX6_freshMending 22 = .ok (.aload_n 0, 1) := by decide +kernel
theorem dX6_freshMending_23 : decode cX6_freshMending 23 = .ok (.getfield 21, 3) := by decide +kernel
theorem dX6_freshMending_26 : decode cX6_freshMending 26 = .ok (.getfield 99, 3) := by decide +kernel
theorem dX6_freshMending_29 : decode cX6_freshMending 29 = .ok (.invokevirtual 173, 3) := by decide +kernel
theorem dX6_freshMending_32 : decode cX6_freshMending 32 = .ok (.aload_n 0, 1) := by decide +kernel
theorem dX6_freshMending_33 : decode cX6_freshMending 33 = .ok (.getfield 42, 3) := by decide +kernel
theorem dX6_freshMending_36 : decode cX6_freshMending 36 = .ok (.invokevirtual 200, 3) := by decide +kernel
theorem dX6_freshMending_39 : decode cX6_freshMending 39 = .ok (.aload_n 0, 1) := by decide +kernel
theorem dX6_freshMending_40 : decode cX6_freshMending 40 = .ok (.iconst 1, 1) := by decide +kernel
theorem dX6_freshMending_41 : decode cX6_freshMending 41 = .ok (.putfield 54, 3) := by decide +kernel
theorem dX6_freshMending_44 : decode cX6_freshMending 44 = .ok (.aload_n 0, 1) := by decide +kernel
theorem dX6_freshMending_45 : decode cX6_freshMending 45 = .ok (.getfield 42, 3) := by decide +kernel
theorem dX6_freshMending_48 : decode cX6_freshMending 48 = .ok (.areturn, 1) := by decide +kernel
theorem dX6_retellSign_0 : decode cX6_retellSign 0 = .ok (.aload_n 0, 1) := by decide +kernel
theorem dX6_retellSign_1 : decode cX6_retellSign 1 = .ok (.getfield 35, 3) := by decide +kernel
theorem dX6_retellSign_4 : decode cX6_retellSign 4 = .ok (.getfield 125, 3) := by decide +kernel
theorem dX6_retellSign_7 : decode cX6_retellSign 7 = .ok (.iload_n 1, 1) := by decide +kernel
theorem dX6_retellSign_8 : decode cX6_retellSign 8 = .ok (.invokevirtual 61, 3) := by decide +kernel
theorem dX6_retellSign_11 : decode cX6_retellSign 11 = .ok (.istore_n 3, 1) := by decide +kernel
theorem dX6_retellSign_12 : decode cX6_retellSign 12 = .ok (.aload_n 0, 1) := by decide +kernel
theorem dX6_retellSign_13 : decode cX6_retellSign 13 = .ok (.getfield 35, 3) := by decide +kernel
theorem dX6_retellSign_16 : decode cX6_retellSign 16 = .ok (.getfield 203, 3) := by decide +kernel
theorem dX6_retellSign_19 : decode cX6_retellSign 19 = .ok (.iload_n 1, 1) := by decide +kernel
theorem dX6_retellSign_20 : decode cX6_retellSign 20 = .ok (.invokevirtual 61, 3) := by decide +kernel
theorem dX6_retellSign_23 : decode cX6_retellSign 23 = .ok (.istore 4, 2) := by decide +kernel
theorem dX6_retellSign_25 : decode cX6_retellSign 25 = .ok (.iload_n 3, 1) := by decide +kernel
theorem dX6_retellSign_26 : decode cX6_retellSign 26 = .ok (.iconst 3, 1) := by decide +kernel
theorem dX6_retellSign_27 : decode cX6_retellSign 27 = .ok (.if_icmp .eq 8, 3) := by decide +kernel
theorem dX6_retellSign_30 : decode cX6_retellSign 30 = .ok (.iload_n 3, 1) := by decide +kernel
