theorem dX0_init_0 : decode cX0_init 0 = .ok (.aload_n 0, 1) := by decide +kernel
theorem dX0_init_1 : decode cX0_init 1 = .ok (.invokespecial 3, 3) := by decide +kernel
theorem dX0_init_4 : decode cX0_init 4 = .ok (.aload_n 0, 1) := by decide +kernel
theorem dX0_init_5 : decode cX0_init 5 = .ok (.new 9, 3) := by decide +kernel
theorem dX0_init_8 : decode cX0_init 8 = .ok (.dup, 1) := by decide +kernel
theorem dX0_init_9 : decode cX0_init 9 = .ok (.bipush 98, 2) := by decide +kernel
theorem dX0_init_11 : decode cX0_init 11 = .ok (.invokespecial 11, 3) := by decide +kernel
theorem dX0_init_14 : decode cX0_init 14 = .ok (.putfield 14, 3) := by decide +kernel
theorem dX0_init_17 : decode cX0_init 17 = .ok (.aload_n 0, 1) := by decide +kernel
theorem dX0_init_18 : decode cX0_init 18 = .ok (.new 9, 3) := by decide +kernel
theorem dX0_init_21 : decode cX0_init 21 = .ok (.dup, 1) := by decide +kernel
theorem dX0_init_22 : decode cX0_init 22 = .ok (.bipush 98, 2) := by decide +kernel
theorem dX0_init_24 : decode cX0_init 24 = .ok (.invokespecial 11, 3) := by decide +kernel
theorem dX0_init_27 : decode cX0_init 27 = .ok (.putfield 20, 3) := by decide +kernel
theorem dX0_init_30 : decode cX0_init 30 = .ok (.aload_n 0, 1) := by decide +kernel
theorem dX0_init_31 : decode cX0_init 31 = .ok (.bipush (-4), 2) := by decide +kernel
theorem dX0_init_33 : decode cX0_init 33 = .ok (.putfield 23, 3) := by decide +kernel
theorem dX0_init_36 : decode cX0_init 36 = .ok (.aload_n 0, 1) := by decide +kernel
theorem dX0_init_37 : decode cX0_init 37 = .ok (.bipush (-4), 2) := by decide +kernel
theorem dX0_init_39 : decode cX0_init 39 = .ok (.putfield 27, 3) := by decide +kernel
theorem dX0_init_42 : decode cX0_init 42 = .ok (.return_, 1) := by decide +kernel
theorem dX0_speakAs_0 : decode cX0_speakAs 0 = .ok (.aload_n 0, 1) := by decide +kernel
theorem dX0_speakAs_1 : decode cX0_speakAs 1 = .ok (.getfield 23, 3) := by decide +kernel
theorem dX0_speakAs_4 : decode cX0_speakAs 4 = .ok (.iload_n 1, 1) := by decide +kernel
theorem dX0_speakAs_5 : decode cX0_speakAs 5 = .ok (.if_icmp .ne 12, 3) := by decide +kernel
theorem dX0_speakAs_8 : decode cX0_speakAs 8 = .ok (.aload_n 0, 1) := by decide +kernel
theorem dX0_speakAs_9 : decode cX0_speakAs 9 = .ok (.getfield 27, 3) := by decide +kernel
theorem dX0_speakAs_12 : decode cX0_speakAs 12 = .ok (.iload_n 2, 1) := by decide +kernel
theorem dX0_speakAs_13 : decode cX0_speakAs 13 = .ok (.if_icmp .ne 4, 3) := by decide +kernel
theorem dX0_speakAs_16 : decode cX0_speakAs 16 = .ok (.return_, 1) := by decide +kernel
theorem dX0_speakAs_17 : decode cX0_speakAs 17 = .ok (.aload_n 0, 1) := by decide +kernel
theorem dX0_speakAs_18 : decode cX0_speakAs 18 = .ok (.iload_n 1, 1) := by decide +kernel
theorem dX0_speakAs_19 : decode cX0_speakAs 19 = .ok (.putfield 23, 3) := by decide +kernel
theorem dX0_speakAs_22 : decode cX0_speakAs 22 = .ok (.aload_n 0, 1) := by decide +kernel
theorem dX0_speakAs_23 : decode cX0_speakAs 23 = .ok (.iload_n 2, 1) := by decide +kernel
theorem dX0_speakAs_24 : decode cX0_speakAs 24 = .ok (.putfield 27, 3) := by decide +kernel
theorem dX0_speakAs_27 : decode cX0_speakAs 27 = .ok (.iconst 0, 1) := by decide +kernel
theorem dX0_speakAs_28 : decode cX0_speakAs 28 = .ok (.istore_n 3, 1) := by decide +kernel
theorem dX0_speakAs_29 : decode cX0_speakAs 29 = .ok (.iload_n 3, 1) := by decide +kernel
theorem dX0_speakAs_30 : decode cX0_speakAs 30 = .ok (.bipush 6, 2) := by decide +kernel
theorem dX0_speakAs_32 : decode cX0_speakAs 32 = .ok (.if_icmp .gt 77, 3) := by decide +kernel
theorem dX0_speakAs_35 : decode cX0_speakAs 35 = .ok (.aload_n 0, 1) := by decide +kernel
theorem dX0_speakAs_36 : decode cX0_speakAs 36 = .ok (.iload_n 3, 1) := by decide +kernel
theorem dX0_speakAs_37 : decode cX0_speakAs 37 = .ok (.invokevirtual 30, 3) := by decide +kernel
theorem dX0_speakAs_40 : decode cX0_speakAs 40 = .ok (.aload_n 0, 1) := by decide +kernel
theorem dX0_speakAs_41 : decode cX0_speakAs 41 = .ok (.iload_n 3, 1) := by decide +kernel
theorem dX0_speakAs_42 : decode cX0_speakAs 42 = .ok (.invokevirtual 33, 3) := by decide +kernel
theorem dX0_speakAs_45 : decode cX0_speakAs 45 = .ok (.istore 4, 2) := by decide +kernel
theorem dX0_speakAs_47 : decode cX0_speakAs 47 = .ok (.iconst 1, 1) := by decide +kernel
theorem dX0_speakAs_48 : decode cX0_speakAs 48 = .ok (.istore 5, 2) := by decide +kernel
theorem dX0_speakAs_50 : decode cX0_speakAs 50 = .ok (.iload 5, 2) := by decide +kernel
theorem dX0_speakAs_52 : decode cX0_speakAs 52 = .ok (.iload 4, 2) := by decide +kernel
theorem dX0_speakAs_54 : decode cX0_speakAs 54 = .ok (.if_icmp .gt 49, 3) := by decide +kernel
theorem dX0_speakAs_57 : decode cX0_speakAs 57 = .ok (.iload_n 3, 1) := by decide +kernel
theorem dX0_speakAs_58 : decode cX0_speakAs 58 = .ok (.iload 5, 2) := by decide +kernel
theorem dX0_speakAs_60 : decode cX0_speakAs 60 = .ok (.invokestatic 37, 3) := by decide +kernel
theorem dX0_speakAs_63 : decode cX0_speakAs 63 = .ok (.istore 6, 2) := by decide +kernel
theorem dX0_speakAs_65 : decode cX0_speakAs 65 = .ok (.aload_n 0, 1) := by decide +kernel
theorem dX0_speakAs_66 : decode cX0_speakAs 66 = .ok (.iload 6, 2) := by decide +kernel
theorem dX0_speakAs_68 : decode cX0_speakAs 68 = .ok (.iconst 0, 1) := by decide +kernel
theorem dX0_speakAs_69 : decode cX0_speakAs 69 = .ok (.aload_n 0, 1) := by decide +kernel
theorem dX0_speakAs_70 : decode cX0_speakAs 70 = .ok (.getfield 23, 3) := by decide +kernel
theorem dX0_speakAs_73 : decode cX0_speakAs 73 = .ok (.iload 4, 2) := by decide +kernel
theorem dX0_speakAs_75 : decode cX0_speakAs 75 = .ok (.iload 5, 2) := by decide +kernel
theorem dX0_speakAs_77 : decode cX0_speakAs 77 = .ok (.isub, 1) := by decide +kernel
theorem dX0_speakAs_78 : decode cX0_speakAs 78 = .ok (.invokestatic 41, 3) := by decide +kernel
theorem dX0_speakAs_81 : decode cX0_speakAs 81 = .ok (.iload 6, 2) := by decide +kernel
theorem dX0_speakAs_83 : decode cX0_speakAs 83 = .ok (.iconst 1, 1) := by decide +kernel
theorem dX0_speakAs_84 : decode cX0_speakAs 84 = .ok (.isub, 1) := by decide +kernel
theorem dX0_speakAs_85 : decode cX0_speakAs 85 = .ok (.invokevirtual 44, 3) := by decide +kernel
theorem dX0_speakAs_88 : decode cX0_speakAs 88 = .ok (.aload_n 0, 1) := by decide +kernel
theorem dX0_speakAs_89 : decode cX0_speakAs 89 = .ok (.iload 6, 2) := by decide +kernel
theorem dX0_speakAs_91 : decode cX0_speakAs 91 = .ok (.iconst 1, 1) := by decide +kernel
theorem dX0_speakAs_92 : decode cX0_speakAs 92 = .ok (.iconst 0, 1) := by decide +kernel
theorem dX0_speakAs_93 : decode cX0_speakAs 93 = .ok (.iconst (-1), 1) := by decide +kernel
theorem dX0_speakAs_94 : decode cX0_speakAs 94 = .ok (.invokevirtual 44, 3) := by decide +kernel
theorem dX0_speakAs_97 : decode cX0_speakAs 97 = .ok (.iinc 5 1, 3) := by decide +kernel
theorem dX0_speakAs_100 : decode cX0_speakAs 100 = .ok (.goto (-50), 3) := by decide +kernel
theorem dX0_speakAs_103 : decode cX0_speakAs 103 = .ok (.iinc 3 1, 3) := by decide +kernel
theorem dX0_speakAs_106 : decode cX0_speakAs 106 = .ok (.goto (-77), 3) := by decide +kernel
theorem dX0_speakAs_109 : decode cX0_speakAs 109 = .ok (.return_, 1) := by decide +kernel
theorem dX0_learnFreeState_0 : decode cX0_learnFreeState 0 = .ok (.iload_n 1, 1) := by decide +kernel
theorem dX0_learnFreeState_1 : decode cX0_learnFreeState 1 = .ok (.iconst 0, 1) := by decide +kernel
theorem dX0_learnFreeState_2 : decode cX0_learnFreeState 2 = .ok (.invokestatic 37, 3) := by decide +kernel
theorem dX0_learnFreeState_5 : decode cX0_learnFreeState 5 = .ok (.istore_n 2, 1) := by decide +kernel
theorem dX0_learnFreeState_6 : decode cX0_learnFreeState 6 = .ok (.iload_n 1, 1) := by decide +kernel
theorem dX0_learnFreeState_7 : decode cX0_learnFreeState 7 = .ok (.bipush 6, 2) := by decide +kernel
theorem dX0_learnFreeState_9 : decode cX0_learnFreeState 9 = .ok (.if_icmp .ge 24, 3) := by decide +kernel
theorem dX0_learnFreeState_12 : decode cX0_learnFreeState 12 = .ok (.aload_n 0, 1) := by decide +kernel
theorem dX0_learnFreeState_13 : decode cX0_learnFreeState 13 = .ok (.iload_n 2, 1) := by decide +kernel
theorem dX0_learnFreeState_14 : decode cX0_learnFreeState 14 = .ok (.iconst 0, 1) := by decide +kernel
theorem dX0_learnFreeState_15 : decode cX0_learnFreeState 15 = .ok (.aload_n 0, 1) := by decide +kernel
theorem dX0_learnFreeState_16 : decode cX0_learnFreeState 16 = .ok (.getfield 23, 3) := by decide +kernel
theorem dX0_learnFreeState_19 : decode cX0_learnFreeState 19 = .ok (.iload_n 1, 1) := by decide +kernel
theorem dX0_learnFreeState_20 : decode cX0_learnFreeState 20 = .ok (.invokestatic 41, 3) := by decide +kernel
theorem dX0_learnFreeState_23 : decode cX0_learnFreeState 23 = .ok (.iload_n 2, 1) := by decide +kernel
theorem dX0_learnFreeState_24 : decode cX0_learnFreeState 24 = .ok (.bipush 7, 2) := by decide +kernel
theorem dX0_learnFreeState_26 : decode cX0_learnFreeState 26 = .ok (.iadd, 1) := by decide +kernel
theorem dX0_learnFreeState_27 : decode cX0_learnFreeState 27 = .ok (.invokevirtual 44, 3) := by decide +kernel
theorem dX0_learnFreeState_30 : decode cX0_learnFreeState 30 = .ok (.goto 11, 3) := by decide +kernel
theorem dX0_learnFreeState_33 : decode cX0_learnFreeState 33 = .ok (.aload_n 0, 1) := by decide +kernel
theorem dX0_learnFreeState_34 : decode cX0_learnFreeState 34 = .ok (.iload_n 2, 1) := by decide +kernel
theorem dX0_learnFreeState_35 : decode cX0_learnFreeState 35 = .ok (.iconst 0, 1) := by decide +kernel
theorem dX0_learnFreeState_36 : decode cX0_learnFreeState 36 = .ok (.iconst 0, 1) := by decide +kernel
theorem dX0_learnFreeState_37 : decode cX0_learnFreeState 37 = .ok (.iconst (-1), 1) := by decide +kernel
theorem dX0_learnFreeState_38 : decode cX0_learnFreeState 38 = .ok (.invokevirtual 44, 3) := by decide +kernel
theorem dX0_learnFreeState_41 : decode cX0_learnFreeState 41 = .ok (.iload_n 1, 1) := by decide +kernel
theorem dX0_learnFreeState_42 : decode cX0_learnFreeState 42 = .ok (.iconst 1, 1) := by decide +kernel
theorem dX0_learnFreeState_43 : decode cX0_learnFreeState 43 = .ok (.if_icmp .lt 24, 3) := by decide +kernel
theorem dX0_learnFreeState_46 : decode cX0_learnFreeState 46 = .ok (.aload_n 0, 1) := by decide +kernel
theorem dX0_learnFreeState_47 : decode cX0_learnFreeState 47 = .ok (.iload_n 2, 1) := by decide +kernel
theorem dX0_learnFreeState_48 : decode cX0_learnFreeState 48 = .ok (.iconst 1, 1) := by decide +kernel
theorem dX0_learnFreeState_49 : decode cX0_learnFreeState 49 = .ok (.aload_n 0, 1) := by decide +kernel
theorem dX0_learnFreeState_50 : decode cX0_learnFreeState 50 = .ok (.getfield 23, 3) := by decide +kernel
theorem dX0_learnFreeState_53 : decode cX0_learnFreeState 53 = .ok (.iload_n 1, 1) := by decide +kernel
theorem dX0_learnFreeState_54 : decode cX0_learnFreeState 54 = .ok (.invokestatic 48, 3) := by decide +kernel
theorem dX0_learnFreeState_57 : decode cX0_learnFreeState 57 = .ok (.iload_n 2, 1) := by decide +kernel
theorem dX0_learnFreeState_58 : decode cX0_learnFreeState 58 = .ok (.bipush 7, 2) := by decide +kernel
theorem dX0_learnFreeState_60 : decode cX0_learnFreeState 60 = .ok (.isub, 1) := by decide +kernel
theorem dX0_learnFreeState_61 : decode cX0_learnFreeState 61 = .ok (.invokevirtual 44, 3) := by decide +kernel
theorem dX0_learnFreeState_64 : decode cX0_learnFreeState 64 = .ok (.goto 11, 3) := by decide +kernel
theorem dX0_learnFreeState_67 : decode cX0_learnFreeState 67 = .ok (.aload_n 0, 1) := by decide +kernel
theorem dX0_learnFreeState_68 : decode cX0_learnFreeState 68 = .ok (.iload_n 2, 1) := by decide +kernel
theorem dX0_learnFreeState_69 : decode cX0_learnFreeState 69 = .ok (.iconst 1, 1) := by decide +kernel
theorem dX0_learnFreeState_70 : decode cX0_learnFreeState 70 = .ok (.iconst 0, 1) := by decide +kernel
theorem dX0_learnFreeState_71 : decode cX0_learnFreeState 71 = .ok (.iconst (-1), 1) := by decide +kernel
theorem dX0_learnFreeState_72 : decode cX0_learnFreeState 72 = .ok (.invokevirtual 44, 3) := by decide +kernel
theorem dX0_learnFreeState_75 : decode cX0_learnFreeState 75 = .ok (.return_, 1) := by decide +kernel
theorem dX0_offer_0 : decode cX0_offer 0 = .ok (.aload_n 0, 1) := by decide +kernel
theorem dX0_offer_1 : decode cX0_offer 1 = .ok (.getfield 14, 3) := by decide +kernel
theorem dX0_offer_4 : decode cX0_offer 4 = .ok (.iload_n 1, 1) := by decide +kernel
theorem dX0_offer_5 : decode cX0_offer 5 = .ok (.iconst 2, 1) := by decide +kernel
theorem dX0_offer_6 : decode cX0_offer 6 = .ok (.imul, 1) := by decide +kernel
theorem dX0_offer_7 : decode cX0_offer 7 = .ok (.iload_n 2, 1) := by decide +kernel
theorem dX0_offer_8 : decode cX0_offer 8 = .ok (.iadd, 1) := by decide +kernel
theorem dX0_offer_9 : decode cX0_offer 9 = .ok (.iload_n 3, 1) := by decide +kernel
theorem dX0_offer_10 : decode cX0_offer 10 = .ok (.invokevirtual 51, 3) := by decide +kernel
theorem dX0_offer_13 : decode cX0_offer 13 = .ok (.aload_n 0, 1) := by decide +kernel
theorem dX0_offer_14 : decode cX0_offer 14 = .ok (.getfield 20, 3) := by decide +kernel
theorem dX0_offer_17 : decode cX0_offer 17 = .ok (.iload_n 1, 1) := by decide +kernel
theorem dX0_offer_18 : decode cX0_offer 18 = .ok (.iconst 2, 1) := by decide +kernel
theorem dX0_offer_19 : decode cX0_offer 19 = .ok (.imul, 1) := by decide +kernel
theorem dX0_offer_20 : decode cX0_offer 20 = .ok (.iload_n 2, 1) := by decide +kernel
theorem dX0_offer_21 : decode cX0_offer 21 = .ok (.iadd, 1) := by decide +kernel
theorem dX0_offer_22 : decode cX0_offer 22 = .ok (.iload 4, 2) := by decide +kernel
theorem dX0_offer_24 : decode cX0_offer 24 = .ok (.invokevirtual 51, 3) := by decide +kernel
theorem dX0_offer_27 : decode cX0_offer 27 = .ok (.return_, 1) := by decide +kernel
theorem dX0_depthOf_0 : decode cX0_depthOf 0 = .ok (.iload_n 0, 1) := by decide +kernel
theorem dX0_depthOf_1 : decode cX0_depthOf 1 = .ok (.bipush 7, 2) := by decide +kernel
theorem dX0_depthOf_3 : decode cX0_depthOf 3 = .ok (.idiv, 1) := by decide +kernel
theorem dX0_depthOf_4 : decode cX0_depthOf 4 = .ok (.ireturn, 1) := by decide +kernel
theorem dX0_leftDue_0 : decode cX0_leftDue 0 = .ok (.iload_n 0, 1) := by decide +kernel
theorem dX0_leftDue_1 : decode cX0_leftDue 1 = .ok (.bipush 7, 2) := by decide +kernel
theorem dX0_leftDue_3 : decode cX0_leftDue 3 = .ok (.irem, 1) := by decide +kernel
theorem dX0_leftDue_4 : decode cX0_leftDue 4 = .ok (.ireturn, 1) := by decide +kernel
theorem dX0_stateOf_0 : decode cX0_stateOf 0 = .ok (.iload_n 0, 1) := by decide +kernel
theorem dX0_stateOf_1 : decode cX0_stateOf 1 = .ok (.bipush 7, 2) := by decide +kernel
theorem dX0_stateOf_3 : decode cX0_stateOf 3 = .ok (.imul, 1) := by decide +kernel
theorem dX0_stateOf_4 : decode cX0_stateOf 4 = .ok (.iload_n 1, 1) := by decide +kernel
theorem dX0_stateOf_5 : decode cX0_stateOf 5 = .ok (.iadd, 1) := by decide +kernel
theorem dX0_stateOf_6 : decode cX0_stateOf 6 = .ok (.ireturn, 1) := by decide +kernel
theorem dX0_dueBehindBreak_0 : decode cX0_dueBehindBreak 0 = .ok (.aload_n 0, 1) := by decide +kernel
theorem dX0_dueBehindBreak_1 : decode cX0_dueBehindBreak 1 = .ok (.getfield 27, 3) := by decide +kernel
theorem dX0_dueBehindBreak_4 : decode cX0_dueBehindBreak 4 = .ok (.ifCond .ne 5, 3) := by decide +kernel
theorem dX0_dueBehindBreak_7 : decode cX0_dueBehindBreak 7 = .ok (.iconst 0, 1) := by decide +kernel
theorem dX0_dueBehindBreak_8 : decode cX0_dueBehindBreak 8 = .ok (.ireturn, 1) := by decide +kernel
theorem dX0_dueBehindBreak_9 : decode cX0_dueBehindBreak 9 = .ok (.aload_n 0, 1) := by decide +kernel
theorem dX0_dueBehindBreak_10 : decode cX0_dueBehindBreak 10 = .ok (.getfield 27, 3) := by decide +kernel
theorem dX0_dueBehindBreak_13 : decode cX0_dueBehindBreak 13 = .ok (.iconst 1, 1) := by decide +kernel
theorem dX0_dueBehindBreak_14 : decode cX0_dueBehindBreak 14 = .ok (.if_icmp .ne 11, 3) := by decide +kernel
theorem dX0_dueBehindBreak_17 : decode cX0_dueBehindBreak 17 = .ok (.iload_n 1, 1) := by decide +kernel
theorem dX0_dueBehindBreak_18 : decode cX0_dueBehindBreak 18 = .ok (.iconst 1, 1) := by decide +kernel
theorem dX0_dueBehindBreak_19 : decode cX0_dueBehindBreak 19 = .ok (.invokestatic 55, 3) := by decide +kernel
theorem dX0_dueBehindBreak_22 : decode cX0_dueBehindBreak 22 = .ok (.goto 4, 3) := by decide +kernel
theorem dX0_dueBehindBreak_25 : decode cX0_dueBehindBreak 25 = .ok (.iload_n 1, 1) := by decide +kernel
theorem dX0_dueBehindBreak_26 : decode cX0_dueBehindBreak 26 = .ok (.ireturn, 1) := by decide +kernel
theorem dX0_firstDue_0 : decode cX0_firstDue 0 = .ok (.aload_n 0, 1) := by decide +kernel
theorem dX0_firstDue_1 : decode cX0_firstDue 1 = .ok (.iload_n 1, 1) := by decide +kernel
theorem dX0_firstDue_2 : decode cX0_firstDue 2 = .ok (.invokestatic 60, 3) := by decide +kernel
theorem dX0_firstDue_5 : decode cX0_firstDue 5 = .ok (.invokevirtual 33, 3) := by decide +kernel
theorem dX0_firstDue_8 : decode cX0_firstDue 8 = .ok (.iload_n 1, 1) := by decide +kernel
theorem dX0_firstDue_9 : decode cX0_firstDue 9 = .ok (.invokestatic 63, 3) := by decide +kernel
theorem dX0_firstDue_12 : decode cX0_firstDue 12 = .ok (.isub, 1) := by decide +kernel
theorem dX0_firstDue_13 : decode cX0_firstDue 13 = .ok (.ireturn, 1) := by decide +kernel
theorem dX0_offered_0 : decode cX0_offered 0 = .ok (.aload_n 0, 1) := by decide +kernel
theorem dX0_offered_1 : decode cX0_offered 1 = .ok (.getfield 14, 3) := by decide +kernel
theorem dX0_offered_4 : decode cX0_offered 4 = .ok (.iload_n 1, 1) := by decide +kernel
theorem dX0_offered_5 : decode cX0_offered 5 = .ok (.iconst 2, 1) := by decide +kernel
theorem dX0_offered_6 : decode cX0_offered 6 = .ok (.imul, 1) := by decide +kernel
theorem dX0_offered_7 : decode cX0_offered 7 = .ok (.iload_n 2, 1) := by decide +kernel
theorem dX0_offered_8 : decode cX0_offered 8 = .ok (.iadd, 1) := by decide +kernel
theorem dX0_offered_9 : decode cX0_offered 9 = .ok (.invokevirtual 66, 3) := by decide +kernel
theorem dX0_offered_12 : decode cX0_offered 12 = .ok (.ireturn, 1) := by decide +kernel
theorem dX0_behindOffer_0 : decode cX0_behindOffer 0 = .ok (.aload_n 0, 1) := by decide +kernel
theorem dX0_behindOffer_1 : decode cX0_behindOffer 1 = .ok (.getfield 20, 3) := by decide +kernel
theorem dX0_behindOffer_4 : decode cX0_behindOffer 4 = .ok (.iload_n 1, 1) := by decide +kernel
theorem dX0_behindOffer_5 : decode cX0_behindOffer 5 = .ok (.iconst 2, 1) := by decide +kernel
theorem dX0_behindOffer_6 : decode cX0_behindOffer 6 = .ok (.imul, 1) := by decide +kernel
theorem dX0_behindOffer_7 : decode cX0_behindOffer 7 = .ok (.iload_n 2, 1) := by decide +kernel
theorem dX0_behindOffer_8 : decode cX0_behindOffer 8 = .ok (.iadd, 1) := by decide +kernel
theorem dX0_behindOffer_9 : decode cX0_behindOffer 9 = .ok (.invokevirtual 66, 3) := by decide +kernel
theorem dX0_behindOffer_12 : decode cX0_behindOffer 12 = .ok (.ireturn, 1) := by decide +kernel
theorem dX0_step_0 : decode cX0_step 0 = .ok (.iload_n 1, 1) := by decide +kernel
theorem dX0_step_1 : decode cX0_step 1 = .ok (.invokestatic 63, 3) := by decide +kernel
theorem dX0_step_4 : decode cX0_step 4 = .ok (.ifCond .ne 35, 3) := by decide +kernel
theorem dX0_step_7 : decode cX0_step 7 = .ok (.iload_n 2, 1) := by decide +kernel
theorem dX0_step_8 : decode cX0_step 8 = .ok (.invokestatic 69, 3) := by decide +kernel
theorem dX0_step_11 : decode cX0_step 11 = .ok (.ifCond .ne 9, 3) := by decide +kernel
theorem dX0_step_14 : decode cX0_step 14 = .ok (.iload_n 2, 1) := by decide +kernel
theorem dX0_step_15 : decode cX0_step 15 = .ok (.bipush 32, 2) := by decide +kernel
theorem dX0_step_17 : decode cX0_step 17 = .ok (.if_icmp .ne 5, 3) := by decide +kernel
theorem dX0_step_20 : decode cX0_step 20 = .ok (.iload_n 1, 1) := by decide +kernel
theorem dX0_step_21 : decode cX0_step 21 = .ok (.ireturn, 1) := by decide +kernel
theorem dX0_step_22 : decode cX0_step 22 = .ok (.iload_n 2, 1) := by decide +kernel
theorem dX0_step_23 : decode cX0_step 23 = .ok (.bipush 124, 2) := by decide +kernel
theorem dX0_step_25 : decode cX0_step 25 = .ok (.if_icmp .ne 14, 3) := by decide +kernel
theorem dX0_step_28 : decode cX0_step 28 = .ok (.iload_n 1, 1) := by decide +kernel
theorem dX0_step_29 : decode cX0_step 29 = .ok (.aload_n 0, 1) := by decide +kernel
theorem dX0_step_30 : decode cX0_step 30 = .ok (.iload_n 1, 1) := by decide +kernel
theorem dX0_step_31 : decode cX0_step 31 = .ok (.invokestatic 60, 3) := by decide +kernel
theorem dX0_step_34 : decode cX0_step 34 = .ok (.invokevirtual 33, 3) := by decide +kernel
theorem dX0_step_37 : decode cX0_step 37 = .ok (.iadd, 1) := by decide +kernel
theorem dX0_step_38 : decode cX0_step 38 = .ok (.ireturn, 1) := by decide +kernel
theorem dX0_step_39 : decode cX0_step 39 = .ok (.iconst 0, 1) := by decide +kernel
theorem dX0_step_40 : decode cX0_step 40 = .ok (.istore_n 3, 1) := by decide +kernel
theorem dX0_step_41 : decode cX0_step 41 = .ok (.iload_n 3, 1) := by decide +kernel
theorem dX0_step_42 : decode cX0_step 42 = .ok (.iconst 2, 1) := by decide +kernel
theorem dX0_step_43 : decode cX0_step 43 = .ok (.if_icmp .ge 26, 3) := by decide +kernel
theorem dX0_step_46 : decode cX0_step 46 = .ok (.aload_n 0, 1) := by decide +kernel
theorem dX0_step_47 : decode cX0_step 47 = .ok (.iload_n 1, 1) := by decide +kernel
theorem dX0_step_48 : decode cX0_step 48 = .ok (.iload_n 3, 1) := by decide +kernel
theorem dX0_step_49 : decode cX0_step 49 = .ok (.invokevirtual 73, 3) := by decide +kernel
theorem dX0_step_52 : decode cX0_step 52 = .ok (.iload_n 2, 1) := by decide +kernel
theorem dX0_step_53 : decode cX0_step 53 = .ok (.if_icmp .ne 10, 3) := by decide +kernel
theorem dX0_step_56 : decode cX0_step 56 = .ok (.aload_n 0, 1) := by decide +kernel
theorem dX0_step_57 : decode cX0_step 57 = .ok (.iload_n 1, 1) := by decide +kernel
theorem dX0_step_58 : decode cX0_step 58 = .ok (.iload_n 3, 1) := by decide +kernel
theorem dX0_step_59 : decode cX0_step 59 = .ok (.invokevirtual 76, 3) := by decide +kernel
theorem dX0_step_62 : decode cX0_step 62 = .ok (.ireturn, 1) := by decide +kernel
theorem dX0_step_63 : decode cX0_step 63 = .ok (.iinc 3 1, 3) := by decide +kernel
theorem dX0_step_66 : decode cX0_step 66 = .ok (.goto (-25), 3) := by decide +kernel
theorem dX0_step_69 : decode cX0_step 69 = .ok (.iconst (-1), 1) := by decide +kernel
theorem dX0_step_70 : decode cX0_step 70 = .ok (.ireturn, 1) := by decide +kernel
theorem dX0_owns_0 : decode cX0_owns 0 = .ok (.iconst 0, 1) := by decide +kernel
theorem dX0_owns_1 : decode cX0_owns 1 = .ok (.istore_n 2, 1) := by decide +kernel
theorem dX0_owns_2 : decode cX0_owns 2 = .ok (.iload_n 2, 1) := by decide +kernel
theorem dX0_owns_3 : decode cX0_owns 3 = .ok (.iconst 4, 1) := by decide +kernel
theorem dX0_owns_4 : decode cX0_owns 4 = .ok (.if_icmp .ge 23, 3) := by decide +kernel
theorem dX0_owns_7 : decode cX0_owns 7 = .ok (.aload_n 0, 1) := by decide +kernel
theorem dX0_owns_8 : decode cX0_owns 8 = .ok (.getfield 23, 3) := by decide +kernel
theorem dX0_owns_11 : decode cX0_owns 11 = .ok (.iload_n 2, 1) := by decide +kernel
theorem dX0_owns_12 : decode cX0_owns 12 = .ok (.invokestatic 79, 3) := by decide +kernel
theorem dX0_owns_15 : decode cX0_owns 15 = .ok (.iload_n 1, 1) := by decide +kernel
theorem dX0_owns_16 : decode cX0_owns 16 = .ok (.if_icmp .ne 5, 3) := by decide +kernel
theorem dX0_owns_19 : decode cX0_owns 19 = .ok (.iconst 1, 1) := by decide +kernel
theorem dX0_owns_20 : decode cX0_owns 20 = .ok (.ireturn, 1) := by decide +kernel
theorem dX0_owns_21 : decode cX0_owns 21 = .ok (.iinc 2 1, 3) := by decide +kernel
theorem dX0_owns_24 : decode cX0_owns 24 = .ok (.goto (-22), 3) := by decide +kernel
theorem dX0_owns_27 : decode cX0_owns 27 = .ok (.iconst 0, 1) := by decide +kernel
theorem dX0_owns_28 : decode cX0_owns 28 = .ok (.ireturn, 1) := by decide +kernel
theorem dX1_init_0 : decode cX1_init 0 = .ok (.aload_n 0, 1) := by decide +kernel
theorem dX1_init_1 : decode cX1_init 1 = .ok (.invokespecial 3, 3) := by decide +kernel
theorem dX1_init_4 : decode cX1_init 4 = .ok (.aload_n 0, 1) := by decide +kernel
theorem dX1_init_5 : decode cX1_init 5 = .ok (.bipush 6, 2) := by decide +kernel
theorem dX1_init_7 : decode cX1_init 7 = .ok (.anewarray 9, 3) := by decide +kernel
theorem dX1_init_10 : decode cX1_init 10 = .ok (.putfield 11, 3) := by decide +kernel
theorem dX1_init_13 : decode cX1_init 13 = .ok (.iconst 0, 1) := by decide +kernel
theorem dX1_init_14 : decode cX1_init 14 = .ok (.istore_n 1, 1) := by decide +kernel
theorem dX1_init_15 : decode cX1_init 15 = .ok (.iload_n 1, 1) := by decide +kernel
theorem dX1_init_16 : decode cX1_init 16 = .ok (.aload_n 0, 1) := by decide +kernel
theorem dX1_init_17 : decode cX1_init 17 = .ok (.getfield 11, 3) := by decide +kernel
theorem dX1_init_20 : decode cX1_init 20 = .ok (.arraylength, 1) := by decide +kernel
theorem dX1_init_21 : decode cX1_init 21 = .ok (.if_icmp .ge 22, 3) := by decide +kernel
theorem dX1_init_24 : decode cX1_init 24 = .ok (.aload_n 0, 1) := by decide +kernel
theorem dX1_init_25 : decode cX1_init 25 = .ok (.getfield 11, 3) := by decide +kernel
theorem dX1_init_28 : decode cX1_init 28 = .ok (.iload_n 1, 1) := by decide +kernel
theorem dX1_init_29 : decode cX1_init 29 = .ok (.new 9, 3) := by decide +kernel
theorem dX1_init_32 : decode cX1_init 32 = .ok (.dup, 1) := by decide +kernel
theorem dX1_init_33 : decode cX1_init 33 = .ok (.invokespecial 17, 3) := by decide +kernel
theorem dX1_init_36 : decode cX1_init 36 = .ok (.aastore, 1) := by decide +kernel
theorem dX1_init_37 : decode cX1_init 37 = .ok (.iinc 1 1, 3) := by decide +kernel
theorem dX1_init_40 : decode cX1_init 40 = .ok (.goto (-25), 3) := by decide +kernel
theorem dX1_init_43 : decode cX1_init 43 = .ok (.aload_n 0, 1) := by decide +kernel
theorem dX1_init_44 : decode cX1_init 44 = .ok (.iconst 0, 1) := by decide +kernel
theorem dX1_init_45 : decode cX1_init 45 = .ok (.putfield 18, 3) := by decide +kernel
theorem dX1_init_48 : decode cX1_init 48 = .ok (.aload_n 0, 1) := by decide +kernel
theorem dX1_init_49 : decode cX1_init 49 = .ok (.iconst 0, 1) := by decide +kernel
theorem dX1_init_50 : decode cX1_init 50 = .ok (.putfield 22, 3) := by decide +kernel
theorem dX1_init_53 : decode cX1_init 53 = .ok (.return_, 1) := by decide +kernel
theorem dX1_keep_0 : decode cX1_keep 0 = .ok (.aload_n 0, 1) := by decide +kernel
theorem dX1_keep_1 : decode cX1_keep 1 = .ok (.aload_n 0, 1) := by decide +kernel
theorem dX1_keep_2 : decode cX1_keep 2 = .ok (.getfield 18, 3) := by decide +kernel
theorem dX1_keep_5 : decode cX1_keep 5 = .ok (.invokevirtual 25, 3) := by decide +kernel
theorem dX1_keep_8 : decode cX1_keep 8 = .ok (.astore_n 2, 1) := by decide +kernel
theorem dX1_keep_9 : decode cX1_keep 9 = .ok (.aload_n 2, 1) := by decide +kernel
theorem dX1_keep_10 : decode cX1_keep 10 = .ok (.ifnull 48, 3) := by decide +kernel
theorem dX1_keep_13 : decode cX1_keep 13 = .ok (.aload_n 2, 1) := by decide +kernel
theorem dX1_keep_14 : decode cX1_keep 14 = .ok (.aload_n 1, 1) := by decide +kernel
theorem dX1_keep_15 : decode cX1_keep 15 = .ok (.invokevirtual 29, 3) := by decide +kernel
theorem dX1_keep_18 : decode cX1_keep 18 = .ok (.aload_n 0, 1) := by decide +kernel
theorem dX1_keep_19 : decode cX1_keep 19 = .ok (.aload_n 0, 1) := by decide +kernel
theorem dX1_keep_20 : decode cX1_keep 20 = .ok (.getfield 18, 3) := by decide +kernel
theorem dX1_keep_23 : decode cX1_keep 23 = .ok (.iconst 1, 1) := by decide +kernel
theorem dX1_keep_24 : decode cX1_keep 24 = .ok (.iadd, 1) := by decide +kernel
theorem dX1_keep_25 : decode cX1_keep 25 = .ok (.bipush 6, 2) := by decide +kernel
theorem dX1_keep_27 : decode cX1_keep 27 = .ok (.if_icmp .ge 12, 3) := by decide +kernel
theorem dX1_keep_30 : decode cX1_keep 30 = .ok (.aload_n 0, 1) := by decide +kernel
theorem dX1_keep_31 : decode cX1_keep 31 = .ok (.getfield 18, 3) := by decide +kernel
theorem dX1_keep_34 : decode cX1_keep 34 = .ok (.iconst 1, 1) := by decide +kernel
theorem dX1_keep_35 : decode cX1_keep 35 = .ok (.iadd, 1) := by decide +kernel
theorem dX1_keep_36 : decode cX1_keep 36 = .ok (.goto 4, 3) := by decide +kernel
theorem dX1_keep_39 : decode cX1_keep 39 = .ok (.iconst 0, 1) := by decide +kernel
theorem dX1_keep_40 : decode cX1_keep 40 = .ok (.putfield 18, 3) := by decide +kernel
theorem dX1_keep_43 : decode cX1_keep 43 = .ok (.aload_n 0, 1) := by decide +kernel
theorem dX1_keep_44 : decode cX1_keep 44 = .ok (.aload_n 0, 1) := by decide +kernel
theorem dX1_keep_45 : decode cX1_keep 45 = .ok (.getfield 22, 3) := by decide +kernel
theorem dX1_keep_48 : decode cX1_keep 48 = .ok (.iconst 1, 1) := by decide +kernel
theorem dX1_keep_49 : decode cX1_keep 49 = .ok (.iadd, 1) := by decide +kernel
theorem dX1_keep_50 : decode cX1_keep 50 = .ok (.bipush 6, 2) := by decide +kernel
theorem dX1_keep_52 : decode cX1_keep 52 = .ok (.invokestatic 33, 3) := by decide +kernel
theorem dX1_keep_55 : decode cX1_keep 55 = .ok (.putfield 22, 3) := by decide +kernel
theorem dX1_keep_58 : decode cX1_keep 58 = .ok (.return_, 1) := by decide +kernel
theorem dX1_giveBack_0 : decode cX1_giveBack 0 = .ok (.aload_n 0, 1) := by decide +kernel
theorem dX1_giveBack_1 : decode cX1_giveBack 1 = .ok (.getfield 18, 3) := by decide +kernel
theorem dX1_giveBack_4 : decode cX1_giveBack 4 = .ok (.ifCond .le 12, 3) := by decide +kernel
theorem dX1_giveBack_7 : decode cX1_giveBack 7 = .ok (.aload_n 0, 1) := by decide +kernel
theorem dX1_giveBack_8 : decode cX1_giveBack 8 = .ok (.getfield 18, 3) := by decide +kernel
theorem dX1_giveBack_11 : decode cX1_giveBack 11 = .ok (.iconst 1, 1) := by decide +kernel
theorem dX1_giveBack_12 : decode cX1_giveBack 12 = .ok (.isub, 1) := by decide +kernel
theorem dX1_giveBack_13 : decode cX1_giveBack 13 = .ok (.goto 4, 3) := by decide +kernel
theorem dX1_giveBack_16 : decode cX1_giveBack 16 = .ok (.iconst 5, 1) := by decide +kernel
theorem dX1_giveBack_17 : decode cX1_giveBack 17 = .ok (.istore_n 2, 1) := by decide +kernel
theorem dX1_giveBack_18 : decode cX1_giveBack 18 = .ok (.aload_n 0, 1) := by decide +kernel
theorem dX1_giveBack_19 : decode cX1_giveBack 19 = .ok (.iload_n 2, 1) := by decide +kernel
theorem dX1_giveBack_20 : decode cX1_giveBack 20 = .ok (.invokevirtual 25, 3) := by decide +kernel
theorem dX1_giveBack_23 : decode cX1_giveBack 23 = .ok (.astore_n 3, 1) := by decide +kernel
theorem dX1_giveBack_24 : decode cX1_giveBack 24 = .ok (.aload_n 3, 1) := by decide +kernel
theorem dX1_giveBack_25 : decode cX1_giveBack 25 = .ok (.ifnull 30, 3) := by decide +kernel
theorem dX1_giveBack_28 : decode cX1_giveBack 28 = .ok (.aload_n 0, 1) := by decide +kernel
theorem dX1_giveBack_29 : decode cX1_giveBack 29 = .ok (.getfield 22, 3) := by decide +kernel
theorem dX1_giveBack_32 : decode cX1_giveBack 32 = .ok (.ifCond .le 23, 3) := by decide +kernel
theorem dX1_giveBack_35 : decode cX1_giveBack 35 = .ok (.aload_n 1, 1) := by decide +kernel
theorem dX1_giveBack_36 : decode cX1_giveBack 36 = .ok (.aload_n 3, 1) := by decide +kernel
theorem dX1_giveBack_37 : decode cX1_giveBack 37 = .ok (.invokevirtual 29, 3) := by decide +kernel
theorem dX1_giveBack_40 : decode cX1_giveBack 40 = .ok (.aload_n 0, 1) := by decide +kernel
theorem dX1_giveBack_41 : decode cX1_giveBack 41 = .ok (.iload_n 2, 1) := by decide +kernel
theorem dX1_giveBack_42 : decode cX1_giveBack 42 = .ok (.putfield 18, 3) := by decide +kernel
theorem dX1_giveBack_45 : decode cX1_giveBack 45 = .ok (.aload_n 0, 1) := by decide +kernel
theorem dX1_giveBack_46 : decode cX1_giveBack 46 = .ok (.dup, 1) := by decide +kernel
theorem dX1_giveBack_47 : decode cX1_giveBack 47 = .ok (.getfield 22, 3) := by decide +kernel
theorem dX1_giveBack_50 : decode cX1_giveBack 50 = .ok (.iconst 1, 1) := by decide +kernel
theorem dX1_giveBack_51 : decode cX1_giveBack 51 = .ok (.isub, 1) := by decide +kernel
theorem dX1_giveBack_52 : decode cX1_giveBack 52 = .ok (.putfield 22, 3) := by decide +kernel
theorem dX1_giveBack_55 : decode cX1_giveBack 55 = .ok (.return_, 1) := by decide +kernel
theorem dX1_forget_0 : decode cX1_forget 0 = .ok (.aload_n 0, 1) := by decide +kernel
theorem dX1_forget_1 : decode cX1_forget 1 = .ok (.iconst 0, 1) := by decide +kernel
theorem dX1_forget_2 : decode cX1_forget 2 = .ok (.putfield 22, 3) := by decide +kernel
theorem dX1_forget_5 : decode cX1_forget 5 = .ok (.return_, 1) := by decide +kernel
theorem dX1_slot_0 : decode cX1_slot 0 = .ok (.iload_n 1, 1) := by decide +kernel
theorem dX1_slot_1 : decode cX1_slot 1 = .ok (.ifCond .lt 21, 3) := by decide +kernel
theorem dX1_slot_4 : decode cX1_slot 4 = .ok (.iload_n 1, 1) := by decide +kernel
theorem dX1_slot_5 : decode cX1_slot 5 = .ok (.aload_n 0, 1) := by decide +kernel
theorem dX1_slot_6 : decode cX1_slot 6 = .ok (.getfield 11, 3) := by decide +kernel
theorem dX1_slot_9 : decode cX1_slot 9 = .ok (.arraylength, 1) := by decide +kernel
theorem dX1_slot_10 : decode cX1_slot 10 = .ok (.if_icmp .ge 12, 3) := by decide +kernel
theorem dX1_slot_13 : decode cX1_slot 13 = .ok (.aload_n 0, 1) := by decide +kernel
theorem dX1_slot_14 : decode cX1_slot 14 = .ok (.getfield 11, 3) := by decide +kernel
theorem dX1_slot_17 : decode cX1_slot 17 = .ok (.iload_n 1, 1) := by decide +kernel
theorem dX1_slot_18 : decode cX1_slot 18 = .ok (.aaload, 1) := by decide +kernel
theorem dX1_slot_19 : decode cX1_slot 19 = .ok (.goto 4, 3) := by decide +kernel
theorem dX1_slot_22 : decode cX1_slot 22 = .ok (.aconst_null, 1) := by decide +kernel
theorem dX1_slot_23 : decode cX1_slot 23 = .ok (.areturn, 1) := by decide +kernel
theorem dX2_init_0 : decode cX2_init 0 = .ok (.aload_n 0, 1) := by decide +kernel
theorem dX2_init_1 : decode cX2_init 1 = .ok (.invokespecial 3, 3) := by decide +kernel
theorem dX2_init_4 : decode cX2_init 4 = .ok (.aload_n 0, 1) := by decide +kernel
theorem dX2_init_5 : decode cX2_init 5 = .ok (.new 9, 3) := by decide +kernel
theorem dX2_init_8 : decode cX2_init 8 = .ok (.dup, 1) := by decide +kernel
theorem dX2_init_9 : decode cX2_init 9 = .ok (.invokespecial 11, 3) := by decide +kernel
theorem dX2_init_12 : decode cX2_init 12 = .ok (.putfield 12, 3) := by decide +kernel
theorem dX2_init_15 : decode cX2_init 15 = .ok (.aload_n 0, 1) := by decide +kernel
theorem dX2_init_16 : decode cX2_init 16 = .ok (.new 18, 3) := by decide +kernel
theorem dX2_init_19 : decode cX2_init 19 = .ok (.dup, 1) := by decide +kernel
theorem dX2_init_20 : decode cX2_init 20 = .ok (.bipush 120, 2) := by decide +kernel
theorem dX2_init_22 : decode cX2_init 22 = .ok (.invokespecial 20, 3) := by decide +kernel
theorem dX2_init_25 : decode cX2_init 25 = .ok (.putfield 23, 3) := by decide +kernel
theorem dX2_init_28 : decode cX2_init 28 = .ok (.aload_n 0, 1) := by decide +kernel
theorem dX2_init_29 : decode cX2_init 29 = .ok (.new 18, 3) := by decide +kernel
theorem dX2_init_32 : decode cX2_init 32 = .ok (.dup, 1) := by decide +kernel
theorem dX2_init_33 : decode cX2_init 33 = .ok (.iconst 3, 1) := by decide +kernel
theorem dX2_init_34 : decode cX2_init 34 = .ok (.invokespecial 20, 3) := by decide +kernel
theorem dX2_init_37 : decode cX2_init 37 = .ok (.putfield 27, 3) := by decide +kernel
theorem dX2_init_40 : decode cX2_init 40 = .ok (.aload_n 0, 1) := by decide +kernel
theorem dX2_init_41 : decode cX2_init 41 = .ok (.new 18, 3) := by decide +kernel
theorem dX2_init_44 : decode cX2_init 44 = .ok (.dup, 1) := by decide +kernel
theorem dX2_init_45 : decode cX2_init 45 = .ok (.sipush 5929, 3) := by decide +kernel
theorem dX2_init_48 : decode cX2_init 48 = .ok (.invokespecial 20, 3) := by decide +kernel
theorem dX2_init_51 : decode cX2_init 51 = .ok (.putfield 30, 3) := by decide +kernel
theorem dX2_init_54 : decode cX2_init 54 = .ok (.aload_n 0, 1) := by decide +kernel
theorem dX2_init_55 : decode cX2_init 55 = .ok (.new 18, 3) := by decide +kernel
theorem dX2_init_58 : decode cX2_init 58 = .ok (.dup, 1) := by decide +kernel
theorem dX2_init_59 : decode cX2_init 59 = .ok (.sipush 1200, 3) := by decide +kernel
theorem dX2_init_62 : decode cX2_init 62 = .ok (.invokespecial 20, 3) := by decide +kernel
theorem dX2_init_65 : decode cX2_init 65 = .ok (.putfield 33, 3) := by decide +kernel
theorem dX2_init_68 : decode cX2_init 68 = .ok (.aload_n 0, 1) := by decide +kernel
theorem dX2_init_69 : decode cX2_init 69 = .ok (.new 18, 3) := by decide +kernel
theorem dX2_init_72 : decode cX2_init 72 = .ok (.dup, 1) := by decide +kernel
theorem dX2_init_73 : decode cX2_init 73 = .ok (.iconst 3, 1) := by decide +kernel
theorem dX2_init_74 : decode cX2_init 74 = .ok (.invokespecial 20, 3) := by decide +kernel
theorem dX2_init_77 : decode cX2_init 77 = .ok (.putfield 36, 3) := by decide +kernel
theorem dX2_init_80 : decode cX2_init 80 = .ok (.aload_n 0, 1) := by decide +kernel
theorem dX2_init_81 : decode cX2_init 81 = .ok (.iconst 0, 1) := by decide +kernel
theorem dX2_init_82 : decode cX2_init 82 = .ok (.putfield 39, 3) := by decide +kernel
theorem dX2_init_85 : decode cX2_init 85 = .ok (.aload_n 0, 1) := by decide +kernel
theorem dX2_init_86 : decode cX2_init 86 = .ok (.iconst 0, 1) := by decide +kernel
theorem dX2_init_87 : decode cX2_init 87 = .ok (.putfield 43, 3) := by decide +kernel
theorem dX2_init_90 : decode cX2_init 90 = .ok (.return_, 1) := by decide +kernel
theorem dX2_leastSum_0 : decode cX2_leastSum 0 = .ok (.aload_n 0, 1) := by decide +kernel
theorem dX2_leastSum_1 : decode cX2_leastSum 1 = .ok (.iconst 0, 1) := by decide +kernel
theorem dX2_leastSum_2 : decode cX2_leastSum 2 = .ok (.iconst 0, 1) := by decide +kernel
theorem dX2_leastSum_3 : decode cX2_leastSum 3 = .ok (.invokevirtual 46, 3) := by decide +kernel
theorem dX2_leastSum_6 : decode cX2_leastSum 6 = .ok (.ireturn, 1) := by decide +kernel
theorem dX2_reckon_0 : decode cX2_reckon 0 = .ok (.aload_n 0, 1) := by decide +kernel
theorem dX2_reckon_1 : decode cX2_reckon 1 = .ok (.getfield 12, 3) := by decide +kernel
theorem dX2_reckon_4 : decode cX2_reckon 4 = .ok (.iload_n 2, 1) := by decide +kernel
theorem dX2_reckon_5 : decode cX2_reckon 5 = .ok (.iload_n 3, 1) := by decide +kernel
theorem dX2_reckon_6 : decode cX2_reckon 6 = .ok (.invokevirtual 50, 3) := by decide +kernel
theorem dX2_reckon_9 : decode cX2_reckon 9 = .ok (.aload_n 0, 1) := by decide +kernel
theorem dX2_reckon_10 : decode cX2_reckon 10 = .ok (.aload_n 1, 1) := by decide +kernel
theorem dX2_reckon_11 : decode cX2_reckon 11 = .ok (.getfield 54, 3) := by decide +kernel
theorem dX2_reckon_14 : decode cX2_reckon 14 = .ok (.putfield 39, 3) := by decide +kernel
theorem dX2_reckon_17 : decode cX2_reckon 17 = .ok (.aload_n 0, 1) := by decide +kernel
theorem dX2_reckon_18 : decode cX2_reckon 18 = .ok (.getfield 23, 3) := by decide +kernel
theorem dX2_reckon_21 : decode cX2_reckon 21 = .ok (.aload_n 1, 1) := by decide +kernel
theorem dX2_reckon_22 : decode cX2_reckon 22 = .ok (.getfield 57, 3) := by decide +kernel
theorem dX2_reckon_25 : decode cX2_reckon 25 = .ok (.aload_n 0, 1) := by decide +kernel
theorem dX2_reckon_26 : decode cX2_reckon 26 = .ok (.getfield 39, 3) := by decide +kernel
theorem dX2_reckon_29 : decode cX2_reckon 29 = .ok (.invokevirtual 58, 3) := by decide +kernel
theorem dX2_reckon_32 : decode cX2_reckon 32 = .ok (.aload_n 0, 1) := by decide +kernel
theorem dX2_reckon_33 : decode cX2_reckon 33 = .ok (.getfield 27, 3) := by decide +kernel
theorem dX2_reckon_36 : decode cX2_reckon 36 = .ok (.aload_n 1, 1) := by decide +kernel
theorem dX2_reckon_37 : decode cX2_reckon 37 = .ok (.getfield 62, 3) := by decide +kernel
theorem dX2_reckon_40 : decode cX2_reckon 40 = .ok (.iconst 3, 1) := by decide +kernel
theorem dX2_reckon_41 : decode cX2_reckon 41 = .ok (.invokevirtual 58, 3) := by decide +kernel
theorem dX2_reckon_44 : decode cX2_reckon 44 = .ok (.aload_n 0, 1) := by decide +kernel
theorem dX2_reckon_45 : decode cX2_reckon 45 = .ok (.getfield 39, 3) := by decide +kernel
theorem dX2_reckon_48 : decode cX2_reckon 48 = .ok (.istore 4, 2) := by decide +kernel
theorem dX2_reckon_50 : decode cX2_reckon 50 = .ok (.iload 4, 2) := by decide +kernel
theorem dX2_reckon_52 : decode cX2_reckon 52 = .ok (.ifCond .lt 21, 3) := by decide +kernel
theorem dX2_reckon_55 : decode cX2_reckon 55 = .ok (.aload_n 0, 1) := by decide +kernel
theorem dX2_reckon_56 : decode cX2_reckon 56 = .ok (.iload 4, 2) := by decide +kernel
theorem dX2_reckon_58 : decode cX2_reckon 58 = .ok (.invokevirtual 63, 3) := by decide +kernel
theorem dX2_reckon_61 : decode cX2_reckon 61 = .ok (.aload_n 0, 1) := by decide +kernel
theorem dX2_reckon_62 : decode cX2_reckon 62 = .ok (.iload 4, 2) := by decide +kernel
theorem dX2_reckon_64 : decode cX2_reckon 64 = .ok (.invokevirtual 66, 3) := by decide +kernel
theorem dX2_reckon_67 : decode cX2_reckon 67 = .ok (.iinc 4 (-1), 3) := by decide +kernel
theorem dX2_reckon_70 : decode cX2_reckon 70 = .ok (.goto (-20), 3) := by decide +kernel
theorem dX2_reckon_73 : decode cX2_reckon 73 = .ok (.return_, 1) := by decide +kernel
theorem dX2_reckonPlace_0 : decode cX2_reckonPlace 0 = .ok (.iload_n 1, 1) := by decide +kernel
theorem dX2_reckonPlace_1 : decode cX2_reckonPlace 1 = .ok (.aload_n 0, 1) := by decide +kernel
theorem dX2_reckonPlace_2 : decode cX2_reckonPlace 2 = .ok (.getfield 39, 3) := by decide +kernel
theorem dX2_reckonPlace_5 : decode cX2_reckonPlace 5 = .ok (.if_icmp .ge 21, 3) := by decide +kernel
theorem dX2_reckonPlace_8 : decode cX2_reckonPlace 8 = .ok (.aload_n 0, 1) := by decide +kernel
theorem dX2_reckonPlace_9 : decode cX2_reckonPlace 9 = .ok (.getfield 23, 3) := by decide +kernel
theorem dX2_reckonPlace_12 : decode cX2_reckonPlace 12 = .ok (.iload_n 1, 1) := by decide +kernel
theorem dX2_reckonPlace_13 : decode cX2_reckonPlace 13 = .ok (.invokevirtual 69, 3) := by decide +kernel
theorem dX2_reckonPlace_16 : decode cX2_reckonPlace 16 = .ok (.invokestatic 73, 3) := by decide +kernel
theorem dX2_reckonPlace_19 : decode cX2_reckonPlace 19 = .ok (.ifCond .eq 7, 3) := by decide +kernel
theorem dX2_reckonPlace_22 : decode cX2_reckonPlace 22 = .ok (.iconst 1, 1) := by decide +kernel
theorem dX2_reckonPlace_23 : decode cX2_reckonPlace 23 = .ok (.goto 4, 3) := by decide +kernel
theorem dX2_reckonPlace_26 : decode cX2_reckonPlace 26 = .ok (.iconst 0, 1) := by decide +kernel
theorem dX2_reckonPlace_27 : decode cX2_reckonPlace 27 = .ok (.istore_n 2, 1) := by decide +kernel
theorem dX2_reckonPlace_28 : decode cX2_reckonPlace 28 = .ok (.iconst 0, 1) := by decide +kernel
theorem dX2_reckonPlace_29 : decode cX2_reckonPlace 29 = .ok (.istore_n 3, 1) := by decide +kernel
theorem dX2_reckonPlace_30 : decode cX2_reckonPlace 30 = .ok (.iload_n 3, 1) := by decide +kernel
theorem dX2_reckonPlace_31 : decode cX2_reckonPlace 31 = .ok (.bipush 6, 2) := by decide +kernel
theorem dX2_reckonPlace_33 : decode cX2_reckonPlace 33 = .ok (.if_icmp .gt 82, 3) := by decide +kernel
theorem dX2_reckonPlace_36 : decode cX2_reckonPlace 36 = .ok (.aload_n 0, 1) := by decide +kernel
theorem dX2_reckonPlace_37 : decode cX2_reckonPlace 37 = .ok (.getfield 12, 3) := by decide +kernel
theorem dX2_reckonPlace_40 : decode cX2_reckonPlace 40 = .ok (.iload_n 3, 1) := by decide +kernel
theorem dX2_reckonPlace_41 : decode cX2_reckonPlace 41 = .ok (.invokevirtual 77, 3) := by decide +kernel
theorem dX2_reckonPlace_44 : decode cX2_reckonPlace 44 = .ok (.istore 4, 2) := by decide +kernel
theorem dX2_reckonPlace_46 : decode cX2_reckonPlace 46 = .ok (.iconst 0, 1) := by decide +kernel
theorem dX2_reckonPlace_47 : decode cX2_reckonPlace 47 = .ok (.istore 5, 2) := by decide +kernel
theorem dX2_reckonPlace_49 : decode cX2_reckonPlace 49 = .ok (.iload 5, 2) := by decide +kernel
theorem dX2_reckonPlace_51 : decode cX2_reckonPlace 51 = .ok (.iload 4, 2) := by decide +kernel
theorem dX2_reckonPlace_53 : decode cX2_reckonPlace 53 = .ok (.if_icmp .gt 56, 3) := by decide +kernel
theorem dX2_reckonPlace_56 : decode cX2_reckonPlace 56 = .ok (.iload_n 3, 1) := by decide +kernel
theorem dX2_reckonPlace_57 : decode cX2_reckonPlace 57 = .ok (.iload 5, 2) := by decide +kernel
theorem dX2_reckonPlace_59 : decode cX2_reckonPlace 59 = .ok (.invokestatic 80, 3) := by decide +kernel
theorem dX2_reckonPlace_62 : decode cX2_reckonPlace 62 = .ok (.istore 6, 2) := by decide +kernel
theorem dX2_reckonPlace_64 : decode cX2_reckonPlace 64 = .ok (.iload_n 2, 1) := by decide +kernel
theorem dX2_reckonPlace_65 : decode cX2_reckonPlace 65 = .ok (.ifCond .eq 13, 3) := by decide +kernel
theorem dX2_reckonPlace_68 : decode cX2_reckonPlace 68 = .ok (.aload_n 0, 1) := by decide +kernel
theorem dX2_reckonPlace_69 : decode cX2_reckonPlace 69 = .ok (.iload_n 1, 1) := by decide +kernel
theorem dX2_reckonPlace_70 : decode cX2_reckonPlace 70 = .ok (.iload 6, 2) := by decide +kernel
theorem dX2_reckonPlace_72 : decode cX2_reckonPlace 72 = .ok (.invokevirtual 83, 3) := by decide +kernel
theorem dX2_reckonPlace_75 : decode cX2_reckonPlace 75 = .ok (.goto 10, 3) := by decide +kernel
theorem dX2_reckonPlace_78 : decode cX2_reckonPlace 78 = .ok (.aload_n 0, 1) := by decide +kernel
theorem dX2_reckonPlace_79 : decode cX2_reckonPlace 79 = .ok (.iload_n 1, 1) := by decide +kernel
theorem dX2_reckonPlace_80 : decode cX2_reckonPlace 80 = .ok (.iload 6, 2) := by decide +kernel
theorem dX2_reckonPlace_82 : decode cX2_reckonPlace 82 = .ok (.invokevirtual 86, 3) := by decide +kernel
theorem dX2_reckonPlace_85 : decode cX2_reckonPlace 85 = .ok (.istore 7, 2) := by decide +kernel
theorem dX2_reckonPlace_87 : decode cX2_reckonPlace 87 = .ok (.aload_n 0, 1) := by decide +kernel
theorem dX2_reckonPlace_88 : decode cX2_reckonPlace 88 = .ok (.getfield 30, 3) := by decide +kernel
theorem dX2_reckonPlace_91 : decode cX2_reckonPlace 91 = .ok (.iload_n 1, 1) := by decide +kernel
theorem dX2_reckonPlace_92 : decode cX2_reckonPlace 92 = .ok (.bipush 49, 2) := by decide +kernel
theorem dX2_reckonPlace_94 : decode cX2_reckonPlace 94 = .ok (.imul, 1) := by decide +kernel
theorem dX2_reckonPlace_95 : decode cX2_reckonPlace 95 = .ok (.iload 6, 2) := by decide +kernel
theorem dX2_reckonPlace_97 : decode cX2_reckonPlace 97 = .ok (.iadd, 1) := by decide +kernel
theorem dX2_reckonPlace_98 : decode cX2_reckonPlace 98 = .ok (.iload 7, 2) := by decide +kernel
theorem dX2_reckonPlace_100 : decode cX2_reckonPlace 100 = .ok (.invokevirtual 89, 3) := by decide +kernel
theorem dX2_reckonPlace_103 : decode cX2_reckonPlace 103 = .ok (.iinc 5 1, 3) := by decide +kernel
theorem dX2_reckonPlace_106 : decode cX2_reckonPlace 106 = .ok (.goto (-57), 3) := by decide +kernel
theorem dX2_reckonPlace_109 : decode cX2_reckonPlace 109 = .ok (.iinc 3 1, 3) := by decide +kernel
theorem dX2_reckonPlace_112 : decode cX2_reckonPlace 112 = .ok (.goto (-82), 3) := by decide +kernel
theorem dX2_reckonPlace_115 : decode cX2_reckonPlace 115 = .ok (.return_, 1) := by decide +kernel
theorem dX2_costAtOther_0 : decode cX2_costAtOther 0 = .ok (.iload_n 1, 1) := by decide +kernel
theorem dX2_costAtOther_1 : decode cX2_costAtOther 1 = .ok (.aload_n 0, 1) := by decide +kernel
theorem dX2_costAtOther_2 : decode cX2_costAtOther 2 = .ok (.getfield 39, 3) := by decide +kernel
theorem dX2_costAtOther_5 : decode cX2_costAtOther 5 = .ok (.if_icmp .lt 14, 3) := by decide +kernel
theorem dX2_costAtOther_8 : decode cX2_costAtOther 8 = .ok (.iload_n 2, 1) := by decide +kernel
theorem dX2_costAtOther_9 : decode cX2_costAtOther 9 = .ok (.ifCond .ne 7, 3) := by decide +kernel
theorem dX2_costAtOther_12 : decode cX2_costAtOther 12 = .ok (.iconst 0, 1) := by decide +kernel
theorem dX2_costAtOther_13 : decode cX2_costAtOther 13 = .ok (.goto 5, 3) := by decide +kernel
theorem dX2_costAtOther_16 : decode cX2_costAtOther 16 = .ok (.ldc 92, 2) := by decide +kernel
theorem dX2_costAtOther_18 : decode cX2_costAtOther 18 = .ok (.ireturn, 1) := by decide +kernel
theorem dX2_costAtOther_19 : decode cX2_costAtOther 19 = .ok (.aload_n 0, 1) := by decide +kernel
theorem dX2_costAtOther_20 : decode cX2_costAtOther 20 = .ok (.getfield 12, 3) := by decide +kernel
theorem dX2_costAtOther_23 : decode cX2_costAtOther 23 = .ok (.iload_n 2, 1) := by decide +kernel
theorem dX2_costAtOther_24 : decode cX2_costAtOther 24 = .ok (.aload_n 0, 1) := by decide +kernel
theorem dX2_costAtOther_25 : decode cX2_costAtOther 25 = .ok (.getfield 23, 3) := by decide +kernel
theorem dX2_costAtOther_28 : decode cX2_costAtOther 28 = .ok (.iload_n 1, 1) := by decide +kernel
theorem dX2_costAtOther_29 : decode cX2_costAtOther 29 = .ok (.invokevirtual 69, 3) := by decide +kernel
theorem dX2_costAtOther_32 : decode cX2_costAtOther 32 = .ok (.invokevirtual 93, 3) := by decide +kernel
theorem dX2_costAtOther_35 : decode cX2_costAtOther 35 = .ok (.istore_n 3, 1) := by decide +kernel
theorem dX2_costAtOther_36 : decode cX2_costAtOther 36 = .ok (.iload_n 3, 1) := by decide +kernel
theorem dX2_costAtOther_37 : decode cX2_costAtOther 37 = .ok (.iconst (-1), 1) := by decide +kernel
theorem dX2_costAtOther_38 : decode cX2_costAtOther 38 = .ok (.if_icmp .eq 14, 3) := by decide +kernel
theorem dX2_costAtOther_41 : decode cX2_costAtOther 41 = .ok (.aload_n 0, 1) := by decide +kernel
theorem dX2_costAtOther_42 : decode cX2_costAtOther 42 = .ok (.iload_n 1, 1) := by decide +kernel
theorem dX2_costAtOther_43 : decode cX2_costAtOther 43 = .ok (.iconst 1, 1) := by decide +kernel
theorem dX2_costAtOther_44 : decode cX2_costAtOther 44 = .ok (.iadd, 1) := by decide +kernel
theorem dX2_costAtOther_45 : decode cX2_costAtOther 45 = .ok (.iload_n 3, 1) := by decide +kernel
theorem dX2_costAtOther_46 : decode cX2_costAtOther 46 = .ok (.invokevirtual 46, 3) := by decide +kernel
theorem dX2_costAtOther_49 : decode cX2_costAtOther 49 = .ok (.goto 5, 3) := by decide +kernel
theorem dX2_costAtOther_52 : decode cX2_costAtOther 52 = .ok (.ldc 92, 2) := by decide +kernel
theorem dX2_costAtOther_54 : decode cX2_costAtOther 54 = .ok (.ireturn, 1) := by decide +kernel
theorem dX2_costAtMark_0 : decode cX2_costAtMark 0 = .ok (.aload_n 0, 1) := by decide +kernel
theorem dX2_costAtMark_1 : decode cX2_costAtMark 1 = .ok (.getfield 23, 3) := by decide +kernel
theorem dX2_costAtMark_4 : decode cX2_costAtMark 4 = .ok (.iload_n 1, 1) := by decide +kernel
theorem dX2_costAtMark_5 : decode cX2_costAtMark 5 = .ok (.invokevirtual 69, 3) := by decide +kernel
theorem dX2_costAtMark_8 : decode cX2_costAtMark 8 = .ok (.istore_n 3, 1) := by decide +kernel
theorem dX2_costAtMark_9 : decode cX2_costAtMark 9 = .ok (.aload_n 0, 1) := by decide +kernel
theorem dX2_costAtMark_10 : decode cX2_costAtMark 10 = .ok (.getfield 27, 3) := by decide +kernel
theorem dX2_costAtMark_13 : decode cX2_costAtMark 13 = .ok (.iconst 1, 1) := by decide +kernel
theorem dX2_costAtMark_14 : decode cX2_costAtMark 14 = .ok (.invokevirtual 69, 3) := by decide +kernel
theorem dX2_costAtMark_17 : decode cX2_costAtMark 17 = .ok (.aload_n 0, 1) := by decide +kernel
theorem dX2_costAtMark_18 : decode cX2_costAtMark 18 = .ok (.iload_n 1, 1) := by decide +kernel
theorem dX2_costAtMark_19 : decode cX2_costAtMark 19 = .ok (.iconst 1, 1) := by decide +kernel
theorem dX2_costAtMark_20 : decode cX2_costAtMark 20 = .ok (.iadd, 1) := by decide +kernel
theorem dX2_costAtMark_21 : decode cX2_costAtMark 21 = .ok (.iload_n 2, 1) := by decide +kernel
theorem dX2_costAtMark_22 : decode cX2_costAtMark 22 = .ok (.invokevirtual 46, 3) := by decide +kernel
theorem dX2_costAtMark_25 : decode cX2_costAtMark 25 = .ok (.iadd, 1) := by decide +kernel
theorem dX2_costAtMark_26 : decode cX2_costAtMark 26 = .ok (.istore 4, 2) := by decide +kernel
theorem dX2_costAtMark_28 : decode cX2_costAtMark 28 = .ok (.iconst 0, 1) := by decide +kernel
theorem dX2_costAtMark_29 : decode cX2_costAtMark 29 = .ok (.istore 5, 2) := by decide +kernel
theorem dX2_costAtMark_31 : decode cX2_costAtMark 31 = .ok (.iload 5, 2) := by decide +kernel
theorem dX2_costAtMark_33 : decode cX2_costAtMark 33 = .ok (.iconst 2, 1) := by decide +kernel
theorem dX2_costAtMark_34 : decode cX2_costAtMark 34 = .ok (.if_icmp .ge 74, 3) := by decide +kernel
theorem dX2_costAtMark_37 : decode cX2_costAtMark 37 = .ok (.aload_n 0, 1) := by decide +kernel
theorem dX2_costAtMark_38 : decode cX2_costAtMark 38 = .ok (.getfield 12, 3) := by decide +kernel
theorem dX2_costAtMark_41 : decode cX2_costAtMark 41 = .ok (.iload_n 2, 1) := by decide +kernel
theorem dX2_costAtMark_42 : decode cX2_costAtMark 42 = .ok (.iload 5, 2) := by decide +kernel
theorem dX2_costAtMark_44 : decode cX2_costAtMark 44 = .ok (.invokevirtual 96, 3) := by decide +kernel
theorem dX2_costAtMark_47 : decode cX2_costAtMark 47 = .ok (.istore 6, 2) := by decide +kernel
theorem dX2_costAtMark_49 : decode cX2_costAtMark 49 = .ok (.iload 6, 2) := by decide +kernel
theorem dX2_costAtMark_51 : decode cX2_costAtMark 51 = .ok (.iconst (-1), 1) := by decide +kernel
theorem dX2_costAtMark_52 : decode cX2_costAtMark 52 = .ok (.if_icmp .eq 50, 3) := by decide +kernel
theorem dX2_costAtMark_55 : decode cX2_costAtMark 55 = .ok (.aload_n 0, 1) := by decide +kernel
theorem dX2_costAtMark_56 : decode cX2_costAtMark 56 = .ok (.getfield 12, 3) := by decide +kernel
theorem dX2_costAtMark_59 : decode cX2_costAtMark 59 = .ok (.iload_n 2, 1) := by decide +kernel
theorem dX2_costAtMark_60 : decode cX2_costAtMark 60 = .ok (.iload 5, 2) := by decide +kernel
theorem dX2_costAtMark_62 : decode cX2_costAtMark 62 = .ok (.invokevirtual 99, 3) := by decide +kernel
theorem dX2_costAtMark_65 : decode cX2_costAtMark 65 = .ok (.iload_n 3, 1) := by decide +kernel
theorem dX2_costAtMark_66 : decode cX2_costAtMark 66 = .ok (.if_icmp .ne 7, 3) := by decide +kernel
theorem dX2_costAtMark_69 : decode cX2_costAtMark 69 = .ok (.iconst 0, 1) := by decide +kernel
theorem dX2_costAtMark_70 : decode cX2_costAtMark 70 = .ok (.goto 11, 3) := by decide +kernel
theorem dX2_costAtMark_73 : decode cX2_costAtMark 73 = .ok (.aload_n 0, 1) := by decide +kernel
theorem dX2_costAtMark_74 : decode cX2_costAtMark 74 = .ok (.getfield 27, 3) := by decide +kernel
theorem dX2_costAtMark_77 : decode cX2_costAtMark 77 = .ok (.iconst 2, 1) := by decide +kernel
theorem dX2_costAtMark_78 : decode cX2_costAtMark 78 = .ok (.invokevirtual 69, 3) := by decide +kernel
theorem dX2_costAtMark_81 : decode cX2_costAtMark 81 = .ok (.istore 7, 2) := by decide +kernel
theorem dX2_costAtMark_83 : decode cX2_costAtMark 83 = .ok (.iload 4, 2) := by decide +kernel
theorem dX2_costAtMark_85 : decode cX2_costAtMark 85 = .ok (.iload 7, 2) := by decide +kernel
theorem dX2_costAtMark_87 : decode cX2_costAtMark 87 = .ok (.aload_n 0, 1) := by decide +kernel
theorem dX2_costAtMark_88 : decode cX2_costAtMark 88 = .ok (.iload_n 1, 1) := by decide +kernel
theorem dX2_costAtMark_89 : decode cX2_costAtMark 89 = .ok (.iconst 1, 1) := by decide +kernel
theorem dX2_costAtMark_90 : decode cX2_costAtMark 90 = .ok (.iadd, 1) := by decide +kernel
theorem dX2_costAtMark_91 : decode cX2_costAtMark 91 = .ok (.iload 6, 2) := by decide +kernel
theorem dX2_costAtMark_93 : decode cX2_costAtMark 93 = .ok (.invokevirtual 46, 3) := by decide +kernel
theorem dX2_costAtMark_96 : decode cX2_costAtMark 96 = .ok (.iadd, 1) := by decide +kernel
theorem dX2_costAtMark_97 : decode cX2_costAtMark 97 = .ok (.invokestatic 102, 3) := by decide +kernel
theorem dX2_costAtMark_100 : decode cX2_costAtMark 100 = .ok (.istore 4, 2) := by decide +kernel
theorem dX2_costAtMark_102 : decode cX2_costAtMark 102 = .ok (.iinc 5 1, 3) := by decide +kernel
theorem dX2_costAtMark_105 : decode cX2_costAtMark 105 = .ok (.goto (-74), 3) := by decide +kernel
theorem dX2_costAtMark_108 : decode cX2_costAtMark 108 = .ok (.iload 4, 2) := by decide +kernel
theorem dX2_costAtMark_110 : decode cX2_costAtMark 110 = .ok (.ireturn, 1) := by decide +kernel
theorem dX2_settlePuttingIn_0 : decode cX2_settlePuttingIn 0 = .ok (.iconst 1, 1) := by decide +kernel
theorem dX2_settlePuttingIn_1 : decode cX2_settlePuttingIn 1 = .ok (.istore_n 2, 1) := by decide +kernel
theorem dX2_settlePuttingIn_2 : decode cX2_settlePuttingIn 2 = .ok (.iload_n 2, 1) := by decide +kernel
theorem dX2_settlePuttingIn_3 : decode cX2_settlePuttingIn 3 = .ok (.bipush 6, 2) := by decide +kernel
theorem dX2_settlePuttingIn_5 : decode cX2_settlePuttingIn 5 = .ok (.if_icmp .gt 26, 3) := by decide +kernel
theorem dX2_settlePuttingIn_8 : decode cX2_settlePuttingIn 8 = .ok (.aload_n 0, 1) := by decide +kernel
theorem dX2_settlePuttingIn_9 : decode cX2_settlePuttingIn 9 = .ok (.iload_n 1, 1) := by decide +kernel
theorem dX2_settlePuttingIn_10 : decode cX2_settlePuttingIn 10 = .ok (.iload_n 2, 1) := by decide +kernel
theorem dX2_settlePuttingIn_11 : decode cX2_settlePuttingIn 11 = .ok (.iconst 0, 1) := by decide +kernel
theorem dX2_settlePuttingIn_12 : decode cX2_settlePuttingIn 12 = .ok (.invokestatic 80, 3) := by decide +kernel
theorem dX2_settlePuttingIn_15 : decode cX2_settlePuttingIn 15 = .ok (.iload_n 2, 1) := by decide +kernel
theorem dX2_settlePuttingIn_16 : decode cX2_settlePuttingIn 16 = .ok (.iconst 1, 1) := by decide +kernel
theorem dX2_settlePuttingIn_17 : decode cX2_settlePuttingIn 17 = .ok (.isub, 1) := by decide +kernel
theorem dX2_settlePuttingIn_18 : decode cX2_settlePuttingIn 18 = .ok (.iconst 0, 1) := by decide +kernel
theorem dX2_settlePuttingIn_19 : decode cX2_settlePuttingIn 19 = .ok (.invokestatic 80, 3) := by decide +kernel
theorem dX2_settlePuttingIn_22 : decode cX2_settlePuttingIn 22 = .ok (.invokevirtual 107, 3) := by decide +kernel
theorem dX2_settlePuttingIn_25 : decode cX2_settlePuttingIn 25 = .ok (.iinc 2 1, 3) := by decide +kernel
theorem dX2_settlePuttingIn_28 : decode cX2_settlePuttingIn 28 = .ok (.goto (-26), 3) := by decide +kernel
theorem dX2_settlePuttingIn_31 : decode cX2_settlePuttingIn 31 = .ok (.iconst 5, 1) := by decide +kernel
theorem dX2_settlePuttingIn_32 : decode cX2_settlePuttingIn 32 = .ok (.istore_n 2, 1) := by decide +kernel
theorem dX2_settlePuttingIn_33 : decode cX2_settlePuttingIn 33 = .ok (.iload_n 2, 1) := by decide +kernel
theorem dX2_settlePuttingIn_34 : decode cX2_settlePuttingIn 34 = .ok (.ifCond .lt 26, 3) := by decide +kernel
theorem dX2_settlePuttingIn_37 : decode cX2_settlePuttingIn 37 = .ok (.aload_n 0, 1) := by decide +kernel
theorem dX2_settlePuttingIn_38 : decode cX2_settlePuttingIn 38 = .ok (.iload_n 1, 1) := by decide +kernel
theorem dX2_settlePuttingIn_39 : decode cX2_settlePuttingIn 39 = .ok (.iload_n 2, 1) := by decide +kernel
theorem dX2_settlePuttingIn_40 : decode cX2_settlePuttingIn 40 = .ok (.iconst 0, 1) := by decide +kernel
theorem dX2_settlePuttingIn_41 : decode cX2_settlePuttingIn 41 = .ok (.invokestatic 80, 3) := by decide +kernel
theorem dX2_settlePuttingIn_44 : decode cX2_settlePuttingIn 44 = .ok (.iload_n 2, 1) := by decide +kernel
theorem dX2_settlePuttingIn_45 : decode cX2_settlePuttingIn 45 = .ok (.iconst 1, 1) := by decide +kernel
theorem dX2_settlePuttingIn_46 : decode cX2_settlePuttingIn 46 = .ok (.iadd, 1) := by decide +kernel
theorem dX2_settlePuttingIn_47 : decode cX2_settlePuttingIn 47 = .ok (.iconst 0, 1) := by decide +kernel
theorem dX2_settlePuttingIn_48 : decode cX2_settlePuttingIn 48 = .ok (.invokestatic 80, 3) := by decide +kernel
theorem dX2_settlePuttingIn_51 : decode cX2_settlePuttingIn 51 = .ok (.invokevirtual 107, 3) := by decide +kernel
theorem dX2_settlePuttingIn_54 : decode cX2_settlePuttingIn 54 = .ok (.iinc 2 (-1), 3) := by decide +kernel
theorem dX2_settlePuttingIn_57 : decode cX2_settlePuttingIn 57 = .ok (.goto (-24), 3) := by decide +kernel
theorem dX2_settlePuttingIn_60 : decode cX2_settlePuttingIn 60 = .ok (.iconst 1, 1) := by decide +kernel
theorem dX2_settlePuttingIn_61 : decode cX2_settlePuttingIn 61 = .ok (.istore_n 2, 1) := by decide +kernel
theorem dX2_settlePuttingIn_62 : decode cX2_settlePuttingIn 62 = .ok (.iload_n 2, 1) := by decide +kernel
theorem dX2_settlePuttingIn_63 : decode cX2_settlePuttingIn 63 = .ok (.bipush 6, 2) := by decide +kernel
theorem dX2_settlePuttingIn_65 : decode cX2_settlePuttingIn 65 = .ok (.if_icmp .gt 52, 3) := by decide +kernel
theorem dX2_settlePuttingIn_68 : decode cX2_settlePuttingIn 68 = .ok (.aload_n 0, 1) := by decide +kernel
theorem dX2_settlePuttingIn_69 : decode cX2_settlePuttingIn 69 = .ok (.getfield 12, 3) := by decide +kernel
theorem dX2_settlePuttingIn_72 : decode cX2_settlePuttingIn 72 = .ok (.iload_n 2, 1) := by decide +kernel
theorem dX2_settlePuttingIn_73 : decode cX2_settlePuttingIn 73 = .ok (.invokevirtual 77, 3) := by decide +kernel
theorem dX2_settlePuttingIn_76 : decode cX2_settlePuttingIn 76 = .ok (.istore_n 3, 1) := by decide +kernel
theorem dX2_settlePuttingIn_77 : decode cX2_settlePuttingIn 77 = .ok (.iconst 1, 1) := by decide +kernel
theorem dX2_settlePuttingIn_78 : decode cX2_settlePuttingIn 78 = .ok (.istore 4, 2) := by decide +kernel
theorem dX2_settlePuttingIn_80 : decode cX2_settlePuttingIn 80 = .ok (.iload 4, 2) := by decide +kernel
theorem dX2_settlePuttingIn_82 : decode cX2_settlePuttingIn 82 = .ok (.iload_n 3, 1) := by decide +kernel
theorem dX2_settlePuttingIn_83 : decode cX2_settlePuttingIn 83 = .ok (.if_icmp .gt 28, 3) := by decide +kernel
theorem dX2_settlePuttingIn_86 : decode cX2_settlePuttingIn 86 = .ok (.aload_n 0, 1) := by decide +kernel
theorem dX2_settlePuttingIn_87 : decode cX2_settlePuttingIn 87 = .ok (.iload_n 1, 1) := by decide +kernel
theorem dX2_settlePuttingIn_88 : decode cX2_settlePuttingIn 88 = .ok (.iload_n 2, 1) := by decide +kernel
theorem dX2_settlePuttingIn_89 : decode cX2_settlePuttingIn 89 = .ok (.iload 4, 2) := by decide +kernel
theorem dX2_settlePuttingIn_91 : decode cX2_settlePuttingIn 91 = .ok (.invokestatic 80, 3) := by decide +kernel
theorem dX2_settlePuttingIn_94 : decode cX2_settlePuttingIn 94 = .ok (.iload_n 2, 1) := by decide +kernel
theorem dX2_settlePuttingIn_95 : decode cX2_settlePuttingIn 95 = .ok (.iload 4, 2) := by decide +kernel
theorem dX2_settlePuttingIn_97 : decode cX2_settlePuttingIn 97 = .ok (.iconst 1, 1) := by decide +kernel
theorem dX2_settlePuttingIn_98 : decode cX2_settlePuttingIn 98 = .ok (.isub, 1) := by decide +kernel
theorem dX2_settlePuttingIn_99 : decode cX2_settlePuttingIn 99 = .ok (.invokestatic 80, 3) := by decide +kernel
theorem dX2_settlePuttingIn_102 : decode cX2_settlePuttingIn 102 = .ok (.invokevirtual 107, 3) := by decide +kernel
theorem dX2_settlePuttingIn_105 : decode cX2_settlePuttingIn 105 = .ok (.iinc 4 1, 3) := by decide +kernel
theorem dX2_settlePuttingIn_108 : decode cX2_settlePuttingIn 108 = .ok (.goto (-28), 3) := by decide +kernel
theorem dX2_settlePuttingIn_111 : decode cX2_settlePuttingIn 111 = .ok (.iinc 2 1, 3) := by decide +kernel
theorem dX2_settlePuttingIn_114 : decode cX2_settlePuttingIn 114 = .ok (.goto (-52), 3) := by decide +kernel
theorem dX2_settlePuttingIn_117 : decode cX2_settlePuttingIn 117 = .ok (.return_, 1) := by decide +kernel
theorem dX2_relax_0 : decode cX2_relax 0 = .ok (.aload_n 0, 1) := by decide +kernel
theorem dX2_relax_1 : decode cX2_relax 1 = .ok (.getfield 27, 3) := by decide +kernel
theorem dX2_relax_4 : decode cX2_relax 4 = .ok (.iconst 0, 1) := by decide +kernel
theorem dX2_relax_5 : decode cX2_relax 5 = .ok (.invokevirtual 69, 3) := by decide +kernel
theorem dX2_relax_8 : decode cX2_relax 8 = .ok (.aload_n 0, 1) := by decide +kernel
theorem dX2_relax_9 : decode cX2_relax 9 = .ok (.iload_n 1, 1) := by decide +kernel
theorem dX2_relax_10 : decode cX2_relax 10 = .ok (.iload_n 3, 1) := by decide +kernel
theorem dX2_relax_11 : decode cX2_relax 11 = .ok (.invokevirtual 46, 3) := by decide +kernel
theorem dX2_relax_14 : decode cX2_relax 14 = .ok (.iadd, 1) := by decide +kernel
theorem dX2_relax_15 : decode cX2_relax 15 = .ok (.istore 4, 2) := by decide +kernel
theorem dX2_relax_17 : decode cX2_relax 17 = .ok (.iload 4, 2) := by decide +kernel
theorem dX2_relax_19 : decode cX2_relax 19 = .ok (.aload_n 0, 1) := by decide +kernel
theorem dX2_relax_20 : decode cX2_relax 20 = .ok (.iload_n 1, 1) := by decide +kernel
theorem dX2_relax_21 : decode cX2_relax 21 = .ok (.iload_n 2, 1) := by decide +kernel
theorem dX2_relax_22 : decode cX2_relax 22 = .ok (.invokevirtual 46, 3) := by decide +kernel
theorem dX2_relax_25 : decode cX2_relax 25 = .ok (.if_icmp .ge 18, 3) := by decide +kernel
theorem dX2_relax_28 : decode cX2_relax 28 = .ok (.aload_n 0, 1) := by decide +kernel
theorem dX2_relax_29 : decode cX2_relax 29 = .ok (.getfield 30, 3) := by decide +kernel
theorem dX2_relax_32 : decode cX2_relax 32 = .ok (.iload_n 1, 1) := by decide +kernel
theorem dX2_relax_33 : decode cX2_relax 33 = .ok (.bipush 49, 2) := by decide +kernel
theorem dX2_relax_35 : decode cX2_relax 35 = .ok (.imul, 1) := by decide +kernel
theorem dX2_relax_36 : decode cX2_relax 36 = .ok (.iload_n 2, 1) := by decide +kernel
theorem dX2_relax_37 : decode cX2_relax 37 = .ok (.iadd, 1) := by decide +kernel
theorem dX2_relax_38 : decode cX2_relax 38 = .ok (.iload 4, 2) := by decide +kernel
theorem dX2_relax_40 : decode cX2_relax 40 = .ok (.invokevirtual 89, 3) := by decide +kernel
theorem dX2_relax_43 : decode cX2_relax 43 = .ok (.return_, 1) := by decide +kernel
theorem dX2_costAt_0 : decode cX2_costAt 0 = .ok (.aload_n 0, 1) := by decide +kernel
theorem dX2_costAt_1 : decode cX2_costAt 1 = .ok (.getfield 30, 3) := by decide +kernel
theorem dX2_costAt_4 : decode cX2_costAt 4 = .ok (.iload_n 1, 1) := by decide +kernel
theorem dX2_costAt_5 : decode cX2_costAt 5 = .ok (.bipush 49, 2) := by decide +kernel
theorem dX2_costAt_7 : decode cX2_costAt 7 = .ok (.imul, 1) := by decide +kernel
theorem dX2_costAt_8 : decode cX2_costAt 8 = .ok (.iload_n 2, 1) := by decide +kernel
theorem dX2_costAt_9 : decode cX2_costAt 9 = .ok (.iadd, 1) := by decide +kernel
theorem dX2_costAt_10 : decode cX2_costAt 10 = .ok (.invokevirtual 69, 3) := by decide +kernel
theorem dX2_costAt_13 : decode cX2_costAt 13 = .ok (.ireturn, 1) := by decide +kernel
theorem dX2_followLeastWay_0 : decode cX2_followLeastWay 0 = .ok (.aload_n 0, 1) := by decide +kernel
theorem dX2_followLeastWay_1 : decode cX2_followLeastWay 1 = .ok (.iconst 0, 1) := by decide +kernel
theorem dX2_followLeastWay_2 : decode cX2_followLeastWay 2 = .ok (.putfield 43, 3) := by decide +kernel
theorem dX2_followLeastWay_5 : decode cX2_followLeastWay 5 = .ok (.aload_n 0, 1) := by decide +kernel
theorem dX2_followLeastWay_6 : decode cX2_followLeastWay 6 = .ok (.iconst 0, 1) := by decide +kernel
theorem dX2_followLeastWay_7 : decode cX2_followLeastWay 7 = .ok (.putfield 111, 3) := by decide +kernel
theorem dX2_followLeastWay_10 : decode cX2_followLeastWay 10 = .ok (.aload_n 0, 1) := by decide +kernel
theorem dX2_followLeastWay_11 : decode cX2_followLeastWay 11 = .ok (.iconst 0, 1) := by decide +kernel
theorem dX2_followLeastWay_12 : decode cX2_followLeastWay 12 = .ok (.putfield 114, 3) := by decide +kernel
theorem dX2_followLeastWay_15 : decode cX2_followLeastWay 15 = .ok (.aload_n 0, 1) := by decide +kernel
theorem dX2_followLeastWay_16 : decode cX2_followLeastWay 16 = .ok (.getfield 36, 3) := by decide +kernel
theorem dX2_followLeastWay_19 : decode cX2_followLeastWay 19 = .ok (.iconst 0, 1) := by decide +kernel
theorem dX2_followLeastWay_20 : decode cX2_followLeastWay 20 = .ok (.invokevirtual 117, 3) := by decide +kernel
theorem dX2_followLeastWay_23 : decode cX2_followLeastWay 23 = .ok (.iconst 0, 1) := by decide +kernel
theorem dX2_followLeastWay_24 : decode cX2_followLeastWay 24 = .ok (.istore_n 1, 1) := by decide +kernel
theorem dX2_followLeastWay_25 : decode cX2_followLeastWay 25 = .ok (.iload_n 1, 1) := by decide +kernel
theorem dX2_followLeastWay_26 : decode cX2_followLeastWay 26 = .ok (.sipush 1200, 3) := by decide +kernel
theorem dX2_followLeastWay_29 : decode cX2_followLeastWay 29 = .ok (.if_icmp .ge 71, 3) := by decide +kernel
theorem dX2_followLeastWay_32 : decode cX2_followLeastWay 32 = .ok (.aload_n 0, 1) := by decide +kernel
theorem dX2_followLeastWay_33 : decode cX2_followLeastWay 33 = .ok (.invokevirtual 120, 3) := by decide +kernel
theorem dX2_followLeastWay_36 : decode cX2_followLeastWay 36 = .ok (.ifCond .ne 64, 3) := by decide +kernel
theorem dX2_followLeastWay_39 : decode cX2_followLeastWay 39 = .ok (.aload_n 0, 1) := by decide +kernel
theorem dX2_followLeastWay_40 : decode cX2_followLeastWay 40 = .ok (.invokevirtual 124, 3) := by decide +kernel
theorem dX2_followLeastWay_43 : decode cX2_followLeastWay 43 = .ok (.ifCond .ne 31, 3) := by decide +kernel
theorem dX2_followLeastWay_46 : decode cX2_followLeastWay 46 = .ok (.aload_n 0, 1) := by decide +kernel
theorem dX2_followLeastWay_47 : decode cX2_followLeastWay 47 = .ok (.invokevirtual 127, 3) := by decide +kernel
theorem dX2_followLeastWay_50 : decode cX2_followLeastWay 50 = .ok (.ifCond .eq 28, 3) := by decide +kernel
theorem dX2_followLeastWay_53 : decode cX2_followLeastWay 53 = .ok (.aload_n 0, 1) := by decide +kernel
theorem dX2_followLeastWay_54 : decode cX2_followLeastWay 54 = .ok (.iconst 2, 1) := by decide +kernel
theorem dX2_followLeastWay_55 : decode cX2_followLeastWay 55 = .ok (.aload_n 0, 1) := by decide +kernel
theorem dX2_followLeastWay_56 : decode cX2_followLeastWay 56 = .ok (.getfield 111, 3) := by decide +kernel
theorem dX2_followLeastWay_59 : decode cX2_followLeastWay 59 = .ok (.iconst 1, 1) := by decide +kernel
theorem dX2_followLeastWay_60 : decode cX2_followLeastWay 60 = .ok (.iadd, 1) := by decide +kernel
theorem dX2_followLeastWay_61 : decode cX2_followLeastWay 61 = .ok (.invokevirtual 130, 3) := by decide +kernel
theorem dX2_followLeastWay_64 : decode cX2_followLeastWay 64 = .ok (.ifCond .ne 10, 3) := by decide +kernel
theorem dX2_followLeastWay_67 : decode cX2_followLeastWay 67 = .ok (.aload_n 0, 1) := by decide +kernel
theorem dX2_followLeastWay_68 : decode cX2_followLeastWay 68 = .ok (.invokevirtual 134, 3) := by decide +kernel
theorem dX2_followLeastWay_71 : decode cX2_followLeastWay 71 = .ok (.ifCond .eq 7, 3) := by decide +kernel
theorem dX2_followLeastWay_74 : decode cX2_followLeastWay 74 = .ok (.iconst 1, 1) := by decide +kernel
theorem dX2_followLeastWay_75 : decode cX2_followLeastWay 75 = .ok (.goto 4, 3) := by decide +kernel
theorem dX2_followLeastWay_78 : decode cX2_followLeastWay 78 = .ok (.iconst 0, 1) := by decide +kernel
theorem dX2_followLeastWay_79 : decode cX2_followLeastWay 79 = .ok (.istore_n 2, 1) := by decide +kernel
theorem dX2_followLeastWay_80 : decode cX2_followLeastWay 80 = .ok (.iload_n 2, 1) := by decide +kernel
theorem dX2_followLeastWay_81 : decode cX2_followLeastWay 81 = .ok (.ifCond .ne 13, 3) := by decide +kernel
theorem dX2_followLeastWay_84 : decode cX2_followLeastWay 84 = .ok (.aload_n 0, 1) := by decide +kernel
theorem dX2_followLeastWay_85 : decode cX2_followLeastWay 85 = .ok (.iconst 0, 1) := by decide +kernel
theorem dX2_followLeastWay_86 : decode cX2_followLeastWay 86 = .ok (.aload_n 0, 1) := by decide +kernel
theorem dX2_followLeastWay_87 : decode cX2_followLeastWay 87 = .ok (.getfield 111, 3) := by decide +kernel
theorem dX2_followLeastWay_90 : decode cX2_followLeastWay 90 = .ok (.invokevirtual 130, 3) := by decide +kernel
theorem dX2_followLeastWay_93 : decode cX2_followLeastWay 93 = .ok (.pop, 1) := by decide +kernel
theorem dX2_followLeastWay_94 : decode cX2_followLeastWay 94 = .ok (.iinc 1 1, 3) := by decide +kernel
theorem dX2_followLeastWay_97 : decode cX2_followLeastWay 97 = .ok (.goto (-72), 3) := by decide +kernel
theorem dX2_followLeastWay_100 : decode cX2_followLeastWay 100 = .ok (.return_, 1) := by decide +kernel
theorem dX2_hasArrived_0 : decode cX2_hasArrived 0 = .ok (.aload_n 0, 1) := by decide +kernel
theorem dX2_hasArrived_1 : decode cX2_hasArrived 1 = .ok (.getfield 111, 3) := by decide +kernel
theorem dX2_hasArrived_4 : decode cX2_hasArrived 4 = .ok (.aload_n 0, 1) := by decide +kernel
theorem dX2_hasArrived_5 : decode cX2_hasArrived 5 = .ok (.getfield 39, 3) := by decide +kernel
theorem dX2_hasArrived_8 : decode cX2_hasArrived 8 = .ok (.if_icmp .lt 14, 3) := by decide +kernel
theorem dX2_hasArrived_11 : decode cX2_hasArrived 11 = .ok (.aload_n 0, 1) := by decide +kernel
theorem dX2_hasArrived_12 : decode cX2_hasArrived 12 = .ok (.getfield 114, 3) := by decide +kernel
theorem dX2_hasArrived_15 : decode cX2_hasArrived 15 = .ok (.ifCond .ne 7, 3) := by decide +kernel
theorem dX2_hasArrived_18 : decode cX2_hasArrived 18 = .ok (.iconst 1, 1) := by decide +kernel
theorem dX2_hasArrived_19 : decode cX2_hasArrived 19 = .ok (.goto 4, 3) := by decide +kernel
theorem dX2_hasArrived_22 : decode cX2_hasArrived 22 = .ok (.iconst 0, 1) := by decide +kernel
theorem dX2_hasArrived_23 : decode cX2_hasArrived 23 = .ok (.ireturn, 1) := by decide +kernel
theorem dX2_isAtMark_0 : decode cX2_isAtMark 0 = .ok (.aload_n 0, 1) := by decide +kernel
theorem dX2_isAtMark_1 : decode cX2_isAtMark 1 = .ok (.getfield 111, 3) := by decide +kernel
theorem dX2_isAtMark_4 : decode cX2_isAtMark 4 = .ok (.aload_n 0, 1) := by decide +kernel
theorem dX2_isAtMark_5 : decode cX2_isAtMark 5 = .ok (.getfield 39, 3) := by decide +kernel
theorem dX2_isAtMark_8 : decode cX2_isAtMark 8 = .ok (.if_icmp .ge 24, 3) := by decide +kernel
theorem dX2_isAtMark_11 : decode cX2_isAtMark 11 = .ok (.aload_n 0, 1) := by decide +kernel
theorem dX2_isAtMark_12 : decode cX2_isAtMark 12 = .ok (.getfield 23, 3) := by decide +kernel
theorem dX2_isAtMark_15 : decode cX2_isAtMark 15 = .ok (.aload_n 0, 1) := by decide +kernel
theorem dX2_isAtMark_16 : decode cX2_isAtMark 16 = .ok (.getfield 111, 3) := by decide +kernel
theorem dX2_isAtMark_19 : decode cX2_isAtMark 19 = .ok (.invokevirtual 69, 3) := by decide +kernel
theorem dX2_isAtMark_22 : decode cX2_isAtMark 22 = .ok (.invokestatic 73, 3) := by decide +kernel
theorem dX2_isAtMark_25 : decode cX2_isAtMark 25 = .ok (.ifCond .eq 7, 3) := by decide +kernel
theorem dX2_isAtMark_28 : decode cX2_isAtMark 28 = .ok (.iconst 1, 1) := by decide +kernel
theorem dX2_isAtMark_29 : decode cX2_isAtMark 29 = .ok (.goto 4, 3) := by decide +kernel
theorem dX2_isAtMark_32 : decode cX2_isAtMark 32 = .ok (.iconst 0, 1) := by decide +kernel
theorem dX2_isAtMark_33 : decode cX2_isAtMark 33 = .ok (.ireturn, 1) := by decide +kernel
theorem dX2_isLeast_0 : decode cX2_isLeast 0 = .ok (.iload_n 1, 1) := by decide +kernel
theorem dX2_isLeast_1 : decode cX2_isLeast 1 = .ok (.aload_n 0, 1) := by decide +kernel
theorem dX2_isLeast_2 : decode cX2_isLeast 2 = .ok (.iload_n 2, 1) := by decide +kernel
theorem dX2_isLeast_3 : decode cX2_isLeast 3 = .ok (.iload_n 3, 1) := by decide +kernel
theorem dX2_isLeast_4 : decode cX2_isLeast 4 = .ok (.invokevirtual 46, 3) := by decide +kernel
theorem dX2_isLeast_7 : decode cX2_isLeast 7 = .ok (.iadd, 1) := by decide +kernel
theorem dX2_isLeast_8 : decode cX2_isLeast 8 = .ok (.aload_n 0, 1) := by decide +kernel
theorem dX2_isLeast_9 : decode cX2_isLeast 9 = .ok (.aload_n 0, 1) := by decide +kernel
theorem dX2_isLeast_10 : decode cX2_isLeast 10 = .ok (.getfield 111, 3) := by decide +kernel
theorem dX2_isLeast_13 : decode cX2_isLeast 13 = .ok (.aload_n 0, 1) := by decide +kernel
theorem dX2_isLeast_14 : decode cX2_isLeast 14 = .ok (.getfield 114, 3) := by decide +kernel
theorem dX2_isLeast_17 : decode cX2_isLeast 17 = .ok (.invokevirtual 46, 3) := by decide +kernel
theorem dX2_isLeast_20 : decode cX2_isLeast 20 = .ok (.if_icmp .ne 7, 3) := by decide +kernel
theorem dX2_isLeast_23 : decode cX2_isLeast 23 = .ok (.iconst 1, 1) := by decide +kernel
theorem dX2_isLeast_24 : decode cX2_isLeast 24 = .ok (.goto 4, 3) := by decide +kernel
theorem dX2_isLeast_27 : decode cX2_isLeast 27 = .ok (.iconst 0, 1) := by decide +kernel
theorem dX2_isLeast_28 : decode cX2_isLeast 28 = .ok (.ireturn, 1) := by decide +kernel
theorem dX2_letStay_0 : decode cX2_letStay 0 = .ok (.aload_n 0, 1) := by decide +kernel
theorem dX2_letStay_1 : decode cX2_letStay 1 = .ok (.getfield 111, 3) := by decide +kernel
theorem dX2_letStay_4 : decode cX2_letStay 4 = .ok (.aload_n 0, 1) := by decide +kernel
theorem dX2_letStay_5 : decode cX2_letStay 5 = .ok (.getfield 39, 3) := by decide +kernel
theorem dX2_letStay_8 : decode cX2_letStay 8 = .ok (.if_icmp .lt 5, 3) := by decide +kernel
theorem dX2_letStay_11 : decode cX2_letStay 11 = .ok (.iconst 0, 1) := by decide +kernel
theorem dX2_letStay_12 : decode cX2_letStay 12 = .ok (.ireturn, 1) := by decide +kernel
theorem dX2_letStay_13 : decode cX2_letStay 13 = .ok (.aload_n 0, 1) := by decide +kernel
theorem dX2_letStay_14 : decode cX2_letStay 14 = .ok (.getfield 23, 3) := by decide +kernel
theorem dX2_letStay_17 : decode cX2_letStay 17 = .ok (.aload_n 0, 1) := by decide +kernel
theorem dX2_letStay_18 : decode cX2_letStay 18 = .ok (.getfield 111, 3) := by decide +kernel
theorem dX2_letStay_21 : decode cX2_letStay 21 = .ok (.invokevirtual 69, 3) := by decide +kernel
theorem dX2_letStay_24 : decode cX2_letStay 24 = .ok (.istore_n 1, 1) := by decide +kernel
theorem dX2_letStay_25 : decode cX2_letStay 25 = .ok (.aload_n 0, 1) := by decide +kernel
theorem dX2_letStay_26 : decode cX2_letStay 26 = .ok (.getfield 12, 3) := by decide +kernel
theorem dX2_letStay_29 : decode cX2_letStay 29 = .ok (.aload_n 0, 1) := by decide +kernel
theorem dX2_letStay_30 : decode cX2_letStay 30 = .ok (.getfield 114, 3) := by decide +kernel
theorem dX2_letStay_33 : decode cX2_letStay 33 = .ok (.iload_n 1, 1) := by decide +kernel
theorem dX2_letStay_34 : decode cX2_letStay 34 = .ok (.invokevirtual 93, 3) := by decide +kernel
theorem dX2_letStay_37 : decode cX2_letStay 37 = .ok (.istore_n 2, 1) := by decide +kernel
theorem dX2_letStay_38 : decode cX2_letStay 38 = .ok (.iload_n 2, 1) := by decide +kernel
theorem dX2_letStay_39 : decode cX2_letStay 39 = .ok (.iconst (-1), 1) := by decide +kernel
theorem dX2_letStay_40 : decode cX2_letStay 40 = .ok (.if_icmp .eq 18, 3) := by decide +kernel
theorem dX2_letStay_43 : decode cX2_letStay 43 = .ok (.aload_n 0, 1) := by decide +kernel
theorem dX2_letStay_44 : decode cX2_letStay 44 = .ok (.iconst 0, 1) := by decide +kernel
theorem dX2_letStay_45 : decode cX2_letStay 45 = .ok (.aload_n 0, 1) := by decide +kernel
theorem dX2_letStay_46 : decode cX2_letStay 46 = .ok (.getfield 111, 3) := by decide +kernel
theorem dX2_letStay_49 : decode cX2_letStay 49 = .ok (.iconst 1, 1) := by decide +kernel
theorem dX2_letStay_50 : decode cX2_letStay 50 = .ok (.iadd, 1) := by decide +kernel
theorem dX2_letStay_51 : decode cX2_letStay 51 = .ok (.iload_n 2, 1) := by decide +kernel
theorem dX2_letStay_52 : decode cX2_letStay 52 = .ok (.invokevirtual 137, 3) := by decide +kernel
theorem dX2_letStay_55 : decode cX2_letStay 55 = .ok (.ifCond .ne 5, 3) := by decide +kernel
theorem dX2_letStay_58 : decode cX2_letStay 58 = .ok (.iconst 0, 1) := by decide +kernel
theorem dX2_letStay_59 : decode cX2_letStay 59 = .ok (.ireturn, 1) := by decide +kernel
theorem dX2_letStay_60 : decode cX2_letStay 60 = .ok (.aload_n 0, 1) := by decide +kernel
theorem dX2_letStay_61 : decode cX2_letStay 61 = .ok (.iload_n 1, 1) := by decide +kernel
theorem dX2_letStay_62 : decode cX2_letStay 62 = .ok (.invokevirtual 141, 3) := by decide +kernel
theorem dX2_letStay_65 : decode cX2_letStay 65 = .ok (.aload_n 0, 1) := by decide +kernel
theorem dX2_letStay_66 : decode cX2_letStay 66 = .ok (.aload_n 0, 1) := by decide +kernel
theorem dX2_letStay_67 : decode cX2_letStay 67 = .ok (.getfield 111, 3) := by decide +kernel
theorem dX2_letStay_70 : decode cX2_letStay 70 = .ok (.iconst 1, 1) := by decide +kernel
theorem dX2_letStay_71 : decode cX2_letStay 71 = .ok (.iadd, 1) := by decide +kernel
theorem dX2_letStay_72 : decode cX2_letStay 72 = .ok (.iload_n 2, 1) := by decide +kernel
theorem dX2_letStay_73 : decode cX2_letStay 73 = .ok (.invokevirtual 144, 3) := by decide +kernel
theorem dX2_letStay_76 : decode cX2_letStay 76 = .ok (.iconst 1, 1) := by decide +kernel
theorem dX2_letStay_77 : decode cX2_letStay 77 = .ok (.ireturn, 1) := by decide +kernel
theorem dX2_leaveOut_0 : decode cX2_leaveOut 0 = .ok (.aload_n 0, 1) := by decide +kernel
theorem dX2_leaveOut_1 : decode cX2_leaveOut 1 = .ok (.aload_n 0, 1) := by decide +kernel
theorem dX2_leaveOut_2 : decode cX2_leaveOut 2 = .ok (.getfield 27, 3) := by decide +kernel
theorem dX2_leaveOut_5 : decode cX2_leaveOut 5 = .ok (.iconst 1, 1) := by decide +kernel
theorem dX2_leaveOut_6 : decode cX2_leaveOut 6 = .ok (.invokevirtual 69, 3) := by decide +kernel
theorem dX2_leaveOut_9 : decode cX2_leaveOut 9 = .ok (.aload_n 0, 1) := by decide +kernel
theorem dX2_leaveOut_10 : decode cX2_leaveOut 10 = .ok (.getfield 111, 3) := by decide +kernel
theorem dX2_leaveOut_13 : decode cX2_leaveOut 13 = .ok (.iconst 1, 1) := by decide +kernel
theorem dX2_leaveOut_14 : decode cX2_leaveOut 14 = .ok (.iadd, 1) := by decide +kernel
theorem dX2_leaveOut_15 : decode cX2_leaveOut 15 = .ok (.aload_n 0, 1) := by decide +kernel
theorem dX2_leaveOut_16 : decode cX2_leaveOut 16 = .ok (.getfield 114, 3) := by decide +kernel
theorem dX2_leaveOut_19 : decode cX2_leaveOut 19 = .ok (.invokevirtual 137, 3) := by decide +kernel
theorem dX2_leaveOut_22 : decode cX2_leaveOut 22 = .ok (.ifCond .ne 5, 3) := by decide +kernel
theorem dX2_leaveOut_25 : decode cX2_leaveOut 25 = .ok (.iconst 0, 1) := by decide +kernel
theorem dX2_leaveOut_26 : decode cX2_leaveOut 26 = .ok (.ireturn, 1) := by decide +kernel
theorem dX2_leaveOut_27 : decode cX2_leaveOut 27 = .ok (.aload_n 0, 1) := by decide +kernel
theorem dX2_leaveOut_28 : decode cX2_leaveOut 28 = .ok (.getfield 36, 3) := by decide +kernel
theorem dX2_leaveOut_31 : decode cX2_leaveOut 31 = .ok (.iconst 1, 1) := by decide +kernel
theorem dX2_leaveOut_32 : decode cX2_leaveOut 32 = .ok (.iconst 1, 1) := by decide +kernel
theorem dX2_leaveOut_33 : decode cX2_leaveOut 33 = .ok (.invokevirtual 147, 3) := by decide +kernel
theorem dX2_leaveOut_36 : decode cX2_leaveOut 36 = .ok (.aload_n 0, 1) := by decide +kernel
theorem dX2_leaveOut_37 : decode cX2_leaveOut 37 = .ok (.aload_n 0, 1) := by decide +kernel
theorem dX2_leaveOut_38 : decode cX2_leaveOut 38 = .ok (.getfield 111, 3) := by decide +kernel
theorem dX2_leaveOut_41 : decode cX2_leaveOut 41 = .ok (.iconst 1, 1) := by decide +kernel
theorem dX2_leaveOut_42 : decode cX2_leaveOut 42 = .ok (.iadd, 1) := by decide +kernel
theorem dX2_leaveOut_43 : decode cX2_leaveOut 43 = .ok (.aload_n 0, 1) := by decide +kernel
theorem dX2_leaveOut_44 : decode cX2_leaveOut 44 = .ok (.getfield 114, 3) := by decide +kernel
theorem dX2_leaveOut_47 : decode cX2_leaveOut 47 = .ok (.invokevirtual 144, 3) := by decide +kernel
theorem dX2_leaveOut_50 : decode cX2_leaveOut 50 = .ok (.iconst 1, 1) := by decide +kernel
theorem dX2_leaveOut_51 : decode cX2_leaveOut 51 = .ok (.ireturn, 1) := by decide +kernel
theorem dX2_takeOffer_0 : decode cX2_takeOffer 0 = .ok (.iconst 0, 1) := by decide +kernel
theorem dX2_takeOffer_1 : decode cX2_takeOffer 1 = .ok (.istore_n 3, 1) := by decide +kernel
theorem dX2_takeOffer_2 : decode cX2_takeOffer 2 = .ok (.iload_n 3, 1) := by decide +kernel
theorem dX2_takeOffer_3 : decode cX2_takeOffer 3 = .ok (.iconst 2, 1) := by decide +kernel
theorem dX2_takeOffer_4 : decode cX2_takeOffer 4 = .ok (.if_icmp .ge 81, 3) := by decide +kernel
theorem dX2_takeOffer_7 : decode cX2_takeOffer 7 = .ok (.aload_n 0, 1) := by decide +kernel
theorem dX2_takeOffer_8 : decode cX2_takeOffer 8 = .ok (.getfield 12, 3) := by decide +kernel
theorem dX2_takeOffer_11 : decode cX2_takeOffer 11 = .ok (.aload_n 0, 1) := by decide +kernel
theorem dX2_takeOffer_12 : decode cX2_takeOffer 12 = .ok (.getfield 114, 3) := by decide +kernel
theorem dX2_takeOffer_15 : decode cX2_takeOffer 15 = .ok (.iload_n 3, 1) := by decide +kernel
theorem dX2_takeOffer_16 : decode cX2_takeOffer 16 = .ok (.invokevirtual 96, 3) := by decide +kernel
theorem dX2_takeOffer_19 : decode cX2_takeOffer 19 = .ok (.istore 4, 2) := by decide +kernel
theorem dX2_takeOffer_21 : decode cX2_takeOffer 21 = .ok (.iload 4, 2) := by decide +kernel
theorem dX2_takeOffer_23 : decode cX2_takeOffer 23 = .ok (.iconst (-1), 1) := by decide +kernel
theorem dX2_takeOffer_24 : decode cX2_takeOffer 24 = .ok (.if_icmp .eq 55, 3) := by decide +kernel
theorem dX2_takeOffer_27 : decode cX2_takeOffer 27 = .ok (.aload_n 0, 1) := by decide +kernel
theorem dX2_takeOffer_28 : decode cX2_takeOffer 28 = .ok (.aload_n 0, 1) := by decide +kernel
theorem dX2_takeOffer_29 : decode cX2_takeOffer 29 = .ok (.getfield 27, 3) := by decide +kernel
theorem dX2_takeOffer_32 : decode cX2_takeOffer 32 = .ok (.iload_n 1, 1) := by decide +kernel
theorem dX2_takeOffer_33 : decode cX2_takeOffer 33 = .ok (.invokevirtual 69, 3) := by decide +kernel
theorem dX2_takeOffer_36 : decode cX2_takeOffer 36 = .ok (.iload_n 2, 1) := by decide +kernel
theorem dX2_takeOffer_37 : decode cX2_takeOffer 37 = .ok (.iload 4, 2) := by decide +kernel
theorem dX2_takeOffer_39 : decode cX2_takeOffer 39 = .ok (.invokevirtual 137, 3) := by decide +kernel
theorem dX2_takeOffer_42 : decode cX2_takeOffer 42 = .ok (.ifCond .eq 37, 3) := by decide +kernel
theorem dX2_takeOffer_45 : decode cX2_takeOffer 45 = .ok (.aload_n 0, 1) := by decide +kernel
theorem dX2_takeOffer_46 : decode cX2_takeOffer 46 = .ok (.aload_n 0, 1) := by decide +kernel
theorem dX2_takeOffer_47 : decode cX2_takeOffer 47 = .ok (.getfield 12, 3) := by decide +kernel
theorem dX2_takeOffer_50 : decode cX2_takeOffer 50 = .ok (.aload_n 0, 1) := by decide +kernel
theorem dX2_takeOffer_51 : decode cX2_takeOffer 51 = .ok (.getfield 114, 3) := by decide +kernel
theorem dX2_takeOffer_54 : decode cX2_takeOffer 54 = .ok (.iload_n 3, 1) := by decide +kernel
theorem dX2_takeOffer_55 : decode cX2_takeOffer 55 = .ok (.invokevirtual 99, 3) := by decide +kernel
theorem dX2_takeOffer_58 : decode cX2_takeOffer 58 = .ok (.invokevirtual 141, 3) := by decide +kernel
theorem dX2_takeOffer_61 : decode cX2_takeOffer 61 = .ok (.aload_n 0, 1) := by decide +kernel
theorem dX2_takeOffer_62 : decode cX2_takeOffer 62 = .ok (.getfield 36, 3) := by decide +kernel
theorem dX2_takeOffer_65 : decode cX2_takeOffer 65 = .ok (.iload_n 1, 1) := by decide +kernel
theorem dX2_takeOffer_66 : decode cX2_takeOffer 66 = .ok (.iconst 1, 1) := by decide +kernel
theorem dX2_takeOffer_67 : decode cX2_takeOffer 67 = .ok (.invokevirtual 147, 3) := by decide +kernel
theorem dX2_takeOffer_70 : decode cX2_takeOffer 70 = .ok (.aload_n 0, 1) := by decide +kernel
theorem dX2_takeOffer_71 : decode cX2_takeOffer 71 = .ok (.iload_n 2, 1) := by decide +kernel
theorem dX2_takeOffer_72 : decode cX2_takeOffer 72 = .ok (.iload 4, 2) := by decide +kernel
theorem dX2_takeOffer_74 : decode cX2_takeOffer 74 = .ok (.invokevirtual 144, 3) := by decide +kernel
theorem dX2_takeOffer_77 : decode cX2_takeOffer 77 = .ok (.iconst 1, 1) := by decide +kernel
theorem dX2_takeOffer_78 : decode cX2_takeOffer 78 = .ok (.ireturn, 1) := by decide +kernel
theorem dX2_takeOffer_79 : decode cX2_takeOffer 79 = .ok (.iinc 3 1, 3) := by decide +kernel
theorem dX2_takeOffer_82 : decode cX2_takeOffer 82 = .ok (.goto (-80), 3) := by decide +kernel
theorem dX2_takeOffer_85 : decode cX2_takeOffer 85 = .ok (.iconst 0, 1) := by decide +kernel
theorem dX2_takeOffer_86 : decode cX2_takeOffer 86 = .ok (.ireturn, 1) := by decide +kernel
theorem dX2_say_0 : decode cX2_say 0 = .ok (.aload_n 0, 1) := by decide +kernel
theorem dX2_say_1 : decode cX2_say 1 = .ok (.getfield 33, 3) := by decide +kernel
theorem dX2_say_4 : decode cX2_say 4 = .ok (.aload_n 0, 1) := by decide +kernel
theorem dX2_say_5 : decode cX2_say 5 = .ok (.getfield 43, 3) := by decide +kernel
theorem dX2_say_8 : decode cX2_say 8 = .ok (.iload_n 1, 1) := by decide +kernel
theorem dX2_say_9 : decode cX2_say 9 = .ok (.invokevirtual 89, 3) := by decide +kernel
theorem dX2_say_12 : decode cX2_say 12 = .ok (.aload_n 0, 1) := by decide +kernel
theorem dX2_say_13 : decode cX2_say 13 = .ok (.dup, 1) := by decide +kernel
theorem dX2_say_14 : decode cX2_say 14 = .ok (.getfield 43, 3) := by decide +kernel
theorem dX2_say_17 : decode cX2_say 17 = .ok (.iconst 1, 1) := by decide +kernel
theorem dX2_say_18 : decode cX2_say 18 = .ok (.iadd, 1) := by decide +kernel
theorem dX2_say_19 : decode cX2_say 19 = .ok (.putfield 43, 3) := by decide +kernel
theorem dX2_say_22 : decode cX2_say 22 = .ok (.return_, 1) := by decide +kernel
theorem dX2_goTo_0 : decode cX2_goTo 0 = .ok (.aload_n 0, 1) := by decide +kernel
theorem dX2_goTo_1 : decode cX2_goTo 1 = .ok (.iload_n 1, 1) := by decide +kernel
theorem dX2_goTo_2 : decode cX2_goTo 2 = .ok (.putfield 111, 3) := by decide +kernel
theorem dX2_goTo_5 : decode cX2_goTo 5 = .ok (.aload_n 0, 1) := by decide +kernel
theorem dX2_goTo_6 : decode cX2_goTo 6 = .ok (.iload_n 2, 1) := by decide +kernel
theorem dX2_goTo_7 : decode cX2_goTo 7 = .ok (.putfield 114, 3) := by decide +kernel
theorem dX2_goTo_10 : decode cX2_goTo 10 = .ok (.return_, 1) := by decide +kernel
theorem dX3_init_0 : decode cX3_init 0 = .ok (.aload_n 0, 1) := by decide +kernel
theorem dX3_init_1 : decode cX3_init 1 = .ok (.invokespecial 3, 3) := by decide +kernel
theorem dX3_init_4 : decode cX3_init 4 = .ok (.aload_n 0, 1) := by decide +kernel
theorem dX3_init_5 : decode cX3_init 5 = .ok (.new 9, 3) := by decide +kernel
theorem dX3_init_8 : decode cX3_init 8 = .ok (.dup, 1) := by decide +kernel
theorem dX3_init_9 : decode cX3_init 9 = .ok (.invokespecial 11, 3) := by decide +kernel
theorem dX3_init_12 : decode cX3_init 12 = .ok (.putfield 12, 3) := by decide +kernel
theorem dX3_init_15 : decode cX3_init 15 = .ok (.aload_n 0, 1) := by decide +kernel
theorem dX3_init_16 : decode cX3_init 16 = .ok (.new 18, 3) := by decide +kernel
theorem dX3_init_19 : decode cX3_init 19 = .ok (.dup, 1) := by decide +kernel
theorem dX3_init_20 : decode cX3_init 20 = .ok (.bipush 120, 2) := by decide +kernel
theorem dX3_init_22 : decode cX3_init 22 = .ok (.invokespecial 20, 3) := by decide +kernel
theorem dX3_init_25 : decode cX3_init 25 = .ok (.putfield 23, 3) := by decide +kernel
theorem dX3_init_28 : decode cX3_init 28 = .ok (.aload_n 0, 1) := by decide +kernel
theorem dX3_init_29 : decode cX3_init 29 = .ok (.new 18, 3) := by decide +kernel
theorem dX3_init_32 : decode cX3_init 32 = .ok (.dup, 1) := by decide +kernel
theorem dX3_init_33 : decode cX3_init 33 = .ok (.bipush 120, 2) := by decide +kernel
theorem dX3_init_35 : decode cX3_init 35 = .ok (.invokespecial 20, 3) := by decide +kernel
theorem dX3_init_38 : decode cX3_init 38 = .ok (.putfield 27, 3) := by decide +kernel
theorem dX3_init_41 : decode cX3_init 41 = .ok (.aload_n 0, 1) := by decide +kernel
theorem dX3_init_42 : decode cX3_init 42 = .ok (.new 18, 3) := by decide +kernel
theorem dX3_init_45 : decode cX3_init 45 = .ok (.dup, 1) := by decide +kernel
theorem dX3_init_46 : decode cX3_init 46 = .ok (.bipush 120, 2) := by decide +kernel
theorem dX3_init_48 : decode cX3_init 48 = .ok (.invokespecial 20, 3) := by decide +kernel
theorem dX3_init_51 : decode cX3_init 51 = .ok (.putfield 30, 3) := by decide +kernel
theorem dX3_init_54 : decode cX3_init 54 = .ok (.aload_n 0, 1) := by decide +kernel
theorem dX3_init_55 : decode cX3_init 55 = .ok (.new 18, 3) := by decide +kernel
theorem dX3_init_58 : decode cX3_init 58 = .ok (.dup, 1) := by decide +kernel
theorem dX3_init_59 : decode cX3_init 59 = .ok (.bipush 120, 2) := by decide +kernel
theorem dX3_init_61 : decode cX3_init 61 = .ok (.invokespecial 20, 3) := by decide +kernel
theorem dX3_init_64 : decode cX3_init 64 = .ok (.putfield 33, 3) := by decide +kernel
theorem dX3_init_67 : decode cX3_init 67 = .ok (.aload_n 0, 1) := by decide +kernel
theorem dX3_init_68 : decode cX3_init 68 = .ok (.new 18, 3) := by decide +kernel
theorem dX3_init_71 : decode cX3_init 71 = .ok (.dup, 1) := by decide +kernel
theorem dX3_init_72 : decode cX3_init 72 = .ok (.sipush 484, 3) := by decide +kernel
theorem dX3_init_75 : decode cX3_init 75 = .ok (.invokespecial 20, 3) := by decide +kernel
theorem dX3_init_78 : decode cX3_init 78 = .ok (.putfield 36, 3) := by decide +kernel
theorem dX3_init_81 : decode cX3_init 81 = .ok (.aload_n 0, 1) := by decide +kernel
theorem dX3_init_82 : decode cX3_init 82 = .ok (.new 18, 3) := by decide +kernel
theorem dX3_init_85 : decode cX3_init 85 = .ok (.dup, 1) := by decide +kernel
theorem dX3_init_86 : decode cX3_init 86 = .ok (.sipush 840, 3) := by decide +kernel
theorem dX3_init_89 : decode cX3_init 89 = .ok (.invokespecial 20, 3) := by decide +kernel
theorem dX3_init_92 : decode cX3_init 92 = .ok (.putfield 39, 3) := by decide +kernel
theorem dX3_init_95 : decode cX3_init 95 = .ok (.aload_n 0, 1) := by decide +kernel
theorem dX3_init_96 : decode cX3_init 96 = .ok (.new 18, 3) := by decide +kernel
theorem dX3_init_99 : decode cX3_init 99 = .ok (.dup, 1) := by decide +kernel
theorem dX3_init_100 : decode cX3_init 100 = .ok (.sipush 363, 3) := by decide +kernel
theorem dX3_init_103 : decode cX3_init 103 = .ok (.invokespecial 20, 3) := by decide +kernel
theorem dX3_init_106 : decode cX3_init 106 = .ok (.putfield 42, 3) := by decide +kernel
theorem dX3_init_109 : decode cX3_init 109 = .ok (.aload_n 0, 1) := by decide +kernel
theorem dX3_init_110 : decode cX3_init 110 = .ok (.new 18, 3) := by decide +kernel
theorem dX3_init_113 : decode cX3_init 113 = .ok (.dup, 1) := by decide +kernel
theorem dX3_init_114 : decode cX3_init 114 = .ok (.bipush 7, 2) := by decide +kernel
theorem dX3_init_116 : decode cX3_init 116 = .ok (.invokespecial 20, 3) := by decide +kernel
theorem dX3_init_119 : decode cX3_init 119 = .ok (.putfield 45, 3) := by decide +kernel
theorem dX3_init_122 : decode cX3_init 122 = .ok (.aload_n 0, 1) := by decide +kernel
theorem dX3_init_123 : decode cX3_init 123 = .ok (.new 18, 3) := by decide +kernel
theorem dX3_init_126 : decode cX3_init 126 = .ok (.dup, 1) := by decide +kernel
theorem dX3_init_127 : decode cX3_init 127 = .ok (.bipush 7, 2) := by decide +kernel
theorem dX3_init_129 : decode cX3_init 129 = .ok (.invokespecial 20, 3) := by decide +kernel
theorem dX3_init_132 : decode cX3_init 132 = .ok (.putfield 48, 3) := by decide +kernel
theorem dX3_init_135 : decode cX3_init 135 = .ok (.aload_n 0, 1) := by decide +kernel
theorem dX3_init_136 : decode cX3_init 136 = .ok (.iconst 0, 1) := by decide +kernel
theorem dX3_init_137 : decode cX3_init 137 = .ok (.putfield 51, 3) := by decide +kernel
theorem dX3_init_140 : decode cX3_init 140 = .ok (.return_, 1) := by decide +kernel
theorem dX3_readWhole_0 : decode cX3_readWhole 0 = .ok (.aload_n 0, 1) := by decide +kernel
theorem dX3_readWhole_1 : decode cX3_readWhole 1 = .ok (.getfield 12, 3) := by decide +kernel
theorem dX3_readWhole_4 : decode cX3_readWhole 4 = .ok (.aload_n 1, 1) := by decide +kernel
theorem dX3_readWhole_5 : decode cX3_readWhole 5 = .ok (.getfield 55, 3) := by decide +kernel
theorem dX3_readWhole_8 : decode cX3_readWhole 8 = .ok (.aload_n 1, 1) := by decide +kernel
theorem dX3_readWhole_9 : decode cX3_readWhole 9 = .ok (.getfield 60, 3) := by decide +kernel
theorem dX3_readWhole_12 : decode cX3_readWhole 12 = .ok (.invokevirtual 63, 3) := by decide +kernel
theorem dX3_readWhole_15 : decode cX3_readWhole 15 = .ok (.aload_n 0, 1) := by decide +kernel
theorem dX3_readWhole_16 : decode cX3_readWhole 16 = .ok (.invokevirtual 67, 3) := by decide +kernel
theorem dX3_readWhole_19 : decode cX3_readWhole 19 = .ok (.iconst 0, 1) := by decide +kernel
theorem dX3_readWhole_20 : decode cX3_readWhole 20 = .ok (.istore_n 2, 1) := by decide +kernel
theorem dX3_readWhole_21 : decode cX3_readWhole 21 = .ok (.iload_n 2, 1) := by decide +kernel
theorem dX3_readWhole_22 : decode cX3_readWhole 22 = .ok (.aload_n 1, 1) := by decide +kernel
theorem dX3_readWhole_23 : decode cX3_readWhole 23 = .ok (.getfield 70, 3) := by decide +kernel
theorem dX3_readWhole_26 : decode cX3_readWhole 26 = .ok (.if_icmp .ge 48, 3) := by decide +kernel
theorem dX3_readWhole_29 : decode cX3_readWhole 29 = .ok (.aload_n 1, 1) := by decide +kernel
theorem dX3_readWhole_30 : decode cX3_readWhole 30 = .ok (.getfield 73, 3) := by decide +kernel
theorem dX3_readWhole_33 : decode cX3_readWhole 33 = .ok (.iload_n 2, 1) := by decide +kernel
theorem dX3_readWhole_34 : decode cX3_readWhole 34 = .ok (.invokevirtual 76, 3) := by decide +kernel
theorem dX3_readWhole_37 : decode cX3_readWhole 37 = .ok (.istore_n 3, 1) := by decide +kernel
theorem dX3_readWhole_38 : decode cX3_readWhole 38 = .ok (.aload_n 0, 1) := by decide +kernel
theorem dX3_readWhole_39 : decode cX3_readWhole 39 = .ok (.iload_n 2, 1) := by decide +kernel
theorem dX3_readWhole_40 : decode cX3_readWhole 40 = .ok (.iload_n 3, 1) := by decide +kernel
theorem dX3_readWhole_41 : decode cX3_readWhole 41 = .ok (.invokevirtual 80, 3) := by decide +kernel
theorem dX3_readWhole_44 : decode cX3_readWhole 44 = .ok (.ifCond .ne 9, 3) := by decide +kernel
theorem dX3_readWhole_47 : decode cX3_readWhole 47 = .ok (.aload_n 0, 1) := by decide +kernel
theorem dX3_readWhole_48 : decode cX3_readWhole 48 = .ok (.iload_n 2, 1) := by decide +kernel
theorem dX3_readWhole_49 : decode cX3_readWhole 49 = .ok (.iload_n 3, 1) := by decide +kernel
theorem dX3_readWhole_50 : decode cX3_readWhole 50 = .ok (.invokevirtual 84, 3) := by decide +kernel
theorem dX3_readWhole_53 : decode cX3_readWhole 53 = .ok (.aload_n 0, 1) := by decide +kernel
theorem dX3_readWhole_54 : decode cX3_readWhole 54 = .ok (.getfield 27, 3) := by decide +kernel
theorem dX3_readWhole_57 : decode cX3_readWhole 57 = .ok (.iload_n 2, 1) := by decide +kernel
theorem dX3_readWhole_58 : decode cX3_readWhole 58 = .ok (.aload_n 0, 1) := by decide +kernel
theorem dX3_readWhole_59 : decode cX3_readWhole 59 = .ok (.getfield 51, 3) := by decide +kernel
theorem dX3_readWhole_62 : decode cX3_readWhole 62 = .ok (.invokestatic 87, 3) := by decide +kernel
theorem dX3_readWhole_65 : decode cX3_readWhole 65 = .ok (.invokevirtual 90, 3) := by decide +kernel
theorem dX3_readWhole_68 : decode cX3_readWhole 68 = .ok (.iinc 2 1, 3) := by decide +kernel
theorem dX3_readWhole_71 : decode cX3_readWhole 71 = .ok (.goto (-50), 3) := by decide +kernel
theorem dX3_readWhole_74 : decode cX3_readWhole 74 = .ok (.aload_n 0, 1) := by decide +kernel
theorem dX3_readWhole_75 : decode cX3_readWhole 75 = .ok (.getfield 51, 3) := by decide +kernel
theorem dX3_readWhole_78 : decode cX3_readWhole 78 = .ok (.invokestatic 93, 3) := by decide +kernel
theorem dX3_readWhole_81 : decode cX3_readWhole 81 = .ok (.ifCond .le 12, 3) := by decide +kernel
theorem dX3_readWhole_84 : decode cX3_readWhole 84 = .ok (.aload_n 0, 1) := by decide +kernel
theorem dX3_readWhole_85 : decode cX3_readWhole 85 = .ok (.aload_n 1, 1) := by decide +kernel
theorem dX3_readWhole_86 : decode cX3_readWhole 86 = .ok (.getfield 70, 3) := by decide +kernel
theorem dX3_readWhole_89 : decode cX3_readWhole 89 = .ok (.iconst 3, 1) := by decide +kernel
theorem dX3_readWhole_90 : decode cX3_readWhole 90 = .ok (.invokevirtual 96, 3) := by decide +kernel
theorem dX3_readWhole_93 : decode cX3_readWhole 93 = .ok (.aload_n 0, 1) := by decide +kernel
theorem dX3_readWhole_94 : decode cX3_readWhole 94 = .ok (.getfield 51, 3) := by decide +kernel
theorem dX3_readWhole_97 : decode cX3_readWhole 97 = .ok (.invokestatic 87, 3) := by decide +kernel
theorem dX3_readWhole_100 : decode cX3_readWhole 100 = .ok (.ifCond .le 12, 3) := by decide +kernel
theorem dX3_readWhole_103 : decode cX3_readWhole 103 = .ok (.aload_n 0, 1) := by decide +kernel
theorem dX3_readWhole_104 : decode cX3_readWhole 104 = .ok (.aload_n 1, 1) := by decide +kernel
theorem dX3_readWhole_105 : decode cX3_readWhole 105 = .ok (.getfield 70, 3) := by decide +kernel
theorem dX3_readWhole_108 : decode cX3_readWhole 108 = .ok (.iconst 4, 1) := by decide +kernel
theorem dX3_readWhole_109 : decode cX3_readWhole 109 = .ok (.invokevirtual 96, 3) := by decide +kernel
theorem dX3_readWhole_112 : decode cX3_readWhole 112 = .ok (.return_, 1) := by decide +kernel
theorem dX3_begin_0 : decode cX3_begin 0 = .ok (.aload_n 0, 1) := by decide +kernel
theorem dX3_begin_1 : decode cX3_begin 1 = .ok (.iconst 0, 1) := by decide +kernel
theorem dX3_begin_2 : decode cX3_begin 2 = .ok (.putfield 51, 3) := by decide +kernel
theorem dX3_begin_5 : decode cX3_begin 5 = .ok (.aload_n 0, 1) := by decide +kernel
theorem dX3_begin_6 : decode cX3_begin 6 = .ok (.iconst 0, 1) := by decide +kernel
theorem dX3_begin_7 : decode cX3_begin 7 = .ok (.putfield 99, 3) := by decide +kernel
theorem dX3_begin_10 : decode cX3_begin 10 = .ok (.aload_n 0, 1) := by decide +kernel
theorem dX3_begin_11 : decode cX3_begin 11 = .ok (.iconst 0, 1) := by decide +kernel
theorem dX3_begin_12 : decode cX3_begin 12 = .ok (.putfield 102, 3) := by decide +kernel
theorem dX3_begin_15 : decode cX3_begin 15 = .ok (.aload_n 0, 1) := by decide +kernel
theorem dX3_begin_16 : decode cX3_begin 16 = .ok (.iconst 0, 1) := by decide +kernel
theorem dX3_begin_17 : decode cX3_begin 17 = .ok (.putfield 105, 3) := by decide +kernel
theorem dX3_begin_20 : decode cX3_begin 20 = .ok (.aload_n 0, 1) := by decide +kernel
theorem dX3_begin_21 : decode cX3_begin 21 = .ok (.iconst 0, 1) := by decide +kernel
theorem dX3_begin_22 : decode cX3_begin 22 = .ok (.putfield 108, 3) := by decide +kernel
theorem dX3_begin_25 : decode cX3_begin 25 = .ok (.aload_n 0, 1) := by decide +kernel
theorem dX3_begin_26 : decode cX3_begin 26 = .ok (.getfield 45, 3) := by decide +kernel
theorem dX3_begin_29 : decode cX3_begin 29 = .ok (.iconst 0, 1) := by decide +kernel
theorem dX3_begin_30 : decode cX3_begin 30 = .ok (.invokevirtual 111, 3) := by decide +kernel
theorem dX3_begin_33 : decode cX3_begin 33 = .ok (.aload_n 0, 1) := by decide +kernel
theorem dX3_begin_34 : decode cX3_begin 34 = .ok (.invokevirtual 114, 3) := by decide +kernel
theorem dX3_begin_37 : decode cX3_begin 37 = .ok (.return_, 1) := by decide +kernel
theorem dX3_beginParagraph_0 : decode cX3_beginParagraph 0 = .ok (.aload_n 0, 1) := by decide +kernel
theorem dX3_beginParagraph_1 : decode cX3_beginParagraph 1 = .ok (.getfield 105, 3) := by decide +kernel
theorem dX3_beginParagraph_4 : decode cX3_beginParagraph 4 = .ok (.iconst 3, 1) := by decide +kernel
theorem dX3_beginParagraph_5 : decode cX3_beginParagraph 5 = .ok (.imul, 1) := by decide +kernel
theorem dX3_beginParagraph_6 : decode cX3_beginParagraph 6 = .ok (.istore_n 1, 1) := by decide +kernel
theorem dX3_beginParagraph_7 : decode cX3_beginParagraph 7 = .ok (.aload_n 0, 1) := by decide +kernel
theorem dX3_beginParagraph_8 : decode cX3_beginParagraph 8 = .ok (.getfield 42, 3) := by decide +kernel
theorem dX3_beginParagraph_11 : decode cX3_beginParagraph 11 = .ok (.iload_n 1, 1) := by decide +kernel
theorem dX3_beginParagraph_12 : decode cX3_beginParagraph 12 = .ok (.iconst 0, 1) := by decide +kernel
theorem dX3_beginParagraph_13 : decode cX3_beginParagraph 13 = .ok (.iadd, 1) := by decide +kernel
theorem dX3_beginParagraph_14 : decode cX3_beginParagraph 14 = .ok (.aload_n 0, 1) := by decide +kernel
theorem dX3_beginParagraph_15 : decode cX3_beginParagraph 15 = .ok (.getfield 51, 3) := by decide +kernel
theorem dX3_beginParagraph_18 : decode cX3_beginParagraph 18 = .ok (.invokestatic 87, 3) := by decide +kernel
theorem dX3_beginParagraph_21 : decode cX3_beginParagraph 21 = .ok (.invokevirtual 90, 3) := by decide +kernel
theorem dX3_beginParagraph_24 : decode cX3_beginParagraph 24 = .ok (.aload_n 0, 1) := by decide +kernel
theorem dX3_beginParagraph_25 : decode cX3_beginParagraph 25 = .ok (.getfield 42, 3) := by decide +kernel
theorem dX3_beginParagraph_28 : decode cX3_beginParagraph 28 = .ok (.iload_n 1, 1) := by decide +kernel
theorem dX3_beginParagraph_29 : decode cX3_beginParagraph 29 = .ok (.iconst 1, 1) := by decide +kernel
theorem dX3_beginParagraph_30 : decode cX3_beginParagraph 30 = .ok (.iadd, 1) := by decide +kernel
theorem dX3_beginParagraph_31 : decode cX3_beginParagraph 31 = .ok (.iconst 0, 1) := by decide +kernel
theorem dX3_beginParagraph_32 : decode cX3_beginParagraph 32 = .ok (.invokevirtual 90, 3) := by decide +kernel
theorem dX3_beginParagraph_35 : decode cX3_beginParagraph 35 = .ok (.aload_n 0, 1) := by decide +kernel
theorem dX3_beginParagraph_36 : decode cX3_beginParagraph 36 = .ok (.getfield 42, 3) := by decide +kernel
theorem dX3_beginParagraph_39 : decode cX3_beginParagraph 39 = .ok (.iload_n 1, 1) := by decide +kernel
theorem dX3_beginParagraph_40 : decode cX3_beginParagraph 40 = .ok (.iconst 2, 1) := by decide +kernel
theorem dX3_beginParagraph_41 : decode cX3_beginParagraph 41 = .ok (.iadd, 1) := by decide +kernel
theorem dX3_beginParagraph_42 : decode cX3_beginParagraph 42 = .ok (.iconst 0, 1) := by decide +kernel
theorem dX3_beginParagraph_43 : decode cX3_beginParagraph 43 = .ok (.invokevirtual 90, 3) := by decide +kernel
theorem dX3_beginParagraph_46 : decode cX3_beginParagraph 46 = .ok (.aload_n 0, 1) := by decide +kernel
theorem dX3_beginParagraph_47 : decode cX3_beginParagraph 47 = .ok (.dup, 1) := by decide +kernel
theorem dX3_beginParagraph_48 : decode cX3_beginParagraph 48 = .ok (.getfield 105, 3) := by decide +kernel
theorem dX3_beginParagraph_51 : decode cX3_beginParagraph 51 = .ok (.iconst 1, 1) := by decide +kernel
theorem dX3_beginParagraph_52 : decode cX3_beginParagraph 52 = .ok (.iadd, 1) := by decide +kernel
theorem dX3_beginParagraph_53 : decode cX3_beginParagraph 53 = .ok (.putfield 105, 3) := by decide +kernel
theorem dX3_beginParagraph_56 : decode cX3_beginParagraph 56 = .ok (.return_, 1) := by decide +kernel
theorem dX3_renews_0 : decode cX3_renews 0 = .ok (.aload_n 0, 1) := by decide +kernel
theorem dX3_renews_1 : decode cX3_renews 1 = .ok (.getfield 51, 3) := by decide +kernel
theorem dX3_renews_4 : decode cX3_renews 4 = .ok (.invokestatic 93, 3) := by decide +kernel
theorem dX3_renews_7 : decode cX3_renews 7 = .ok (.istore_n 3, 1) := by decide +kernel
theorem dX3_renews_8 : decode cX3_renews 8 = .ok (.iload_n 3, 1) := by decide +kernel
theorem dX3_renews_9 : decode cX3_renews 9 = .ok (.ifCond .ne 5, 3) := by decide +kernel
theorem dX3_renews_12 : decode cX3_renews 12 = .ok (.iconst 0, 1) := by decide +kernel
theorem dX3_renews_13 : decode cX3_renews 13 = .ok (.ireturn, 1) := by decide +kernel
theorem dX3_renews_14 : decode cX3_renews 14 = .ok (.aload_n 0, 1) := by decide +kernel
theorem dX3_renews_15 : decode cX3_renews 15 = .ok (.getfield 12, 3) := by decide +kernel
theorem dX3_renews_18 : decode cX3_renews 18 = .ok (.aload_n 0, 1) := by decide +kernel
theorem dX3_renews_19 : decode cX3_renews 19 = .ok (.getfield 51, 3) := by decide +kernel
theorem dX3_renews_22 : decode cX3_renews 22 = .ok (.iload_n 2, 1) := by decide +kernel
theorem dX3_renews_23 : decode cX3_renews 23 = .ok (.invokevirtual 117, 3) := by decide +kernel
theorem dX3_renews_26 : decode cX3_renews 26 = .ok (.iconst (-1), 1) := by decide +kernel
theorem dX3_renews_27 : decode cX3_renews 27 = .ok (.if_icmp .ne 21, 3) := by decide +kernel
theorem dX3_renews_30 : decode cX3_renews 30 = .ok (.aload_n 0, 1) := by decide +kernel
theorem dX3_renews_31 : decode cX3_renews 31 = .ok (.iload_n 1, 1) := by decide +kernel
theorem dX3_renews_32 : decode cX3_renews 32 = .ok (.iconst 3, 1) := by decide +kernel
theorem dX3_renews_33 : decode cX3_renews 33 = .ok (.invokevirtual 96, 3) := by decide +kernel
theorem dX3_renews_36 : decode cX3_renews 36 = .ok (.aload_n 0, 1) := by decide +kernel
theorem dX3_renews_37 : decode cX3_renews 37 = .ok (.dup, 1) := by decide +kernel
theorem dX3_renews_38 : decode cX3_renews 38 = .ok (.getfield 51, 3) := by decide +kernel
theorem dX3_renews_41 : decode cX3_renews 41 = .ok (.iload_n 3, 1) := by decide +kernel
theorem dX3_renews_42 : decode cX3_renews 42 = .ok (.isub, 1) := by decide +kernel
theorem dX3_renews_43 : decode cX3_renews 43 = .ok (.putfield 51, 3) := by decide +kernel
theorem dX3_renews_46 : decode cX3_renews 46 = .ok (.iconst 0, 1) := by decide +kernel
theorem dX3_renews_47 : decode cX3_renews 47 = .ok (.ireturn, 1) := by decide +kernel
theorem dX3_renews_48 : decode cX3_renews 48 = .ok (.aload_n 0, 1) := by decide +kernel
theorem dX3_renews_49 : decode cX3_renews 49 = .ok (.getfield 23, 3) := by decide +kernel
theorem dX3_renews_52 : decode cX3_renews 52 = .ok (.iload_n 1, 1) := by decide +kernel
theorem dX3_renews_53 : decode cX3_renews 53 = .ok (.iconst 5, 1) := by decide +kernel
theorem dX3_renews_54 : decode cX3_renews 54 = .ok (.invokevirtual 90, 3) := by decide +kernel
theorem dX3_renews_57 : decode cX3_renews 57 = .ok (.aload_n 0, 1) := by decide +kernel
theorem dX3_renews_58 : decode cX3_renews 58 = .ok (.getfield 33, 3) := by decide +kernel
theorem dX3_renews_61 : decode cX3_renews 61 = .ok (.iload_n 1, 1) := by decide +kernel
theorem dX3_renews_62 : decode cX3_renews 62 = .ok (.aload_n 0, 1) := by decide +kernel
theorem dX3_renews_63 : decode cX3_renews 63 = .ok (.getfield 12, 3) := by decide +kernel
theorem dX3_renews_66 : decode cX3_renews 66 = .ok (.aload_n 0, 1) := by decide +kernel
theorem dX3_renews_67 : decode cX3_renews 67 = .ok (.getfield 51, 3) := by decide +kernel
theorem dX3_renews_70 : decode cX3_renews 70 = .ok (.invokevirtual 121, 3) := by decide +kernel
theorem dX3_renews_73 : decode cX3_renews 73 = .ok (.invokevirtual 90, 3) := by decide +kernel
theorem dX3_renews_76 : decode cX3_renews 76 = .ok (.aload_n 0, 1) := by decide +kernel
theorem dX3_renews_77 : decode cX3_renews 77 = .ok (.iconst 2, 1) := by decide +kernel
theorem dX3_renews_78 : decode cX3_renews 78 = .ok (.invokevirtual 124, 3) := by decide +kernel
theorem dX3_renews_81 : decode cX3_renews 81 = .ok (.aload_n 0, 1) := by decide +kernel
theorem dX3_renews_82 : decode cX3_renews 82 = .ok (.dup, 1) := by decide +kernel
theorem dX3_renews_83 : decode cX3_renews 83 = .ok (.getfield 51, 3) := by decide +kernel
theorem dX3_renews_86 : decode cX3_renews 86 = .ok (.iconst 1, 1) := by decide +kernel
theorem dX3_renews_87 : decode cX3_renews 87 = .ok (.isub, 1) := by decide +kernel
theorem dX3_renews_88 : decode cX3_renews 88 = .ok (.putfield 51, 3) := by decide +kernel
theorem dX3_renews_91 : decode cX3_renews 91 = .ok (.iconst 1, 1) := by decide +kernel
theorem dX3_renews_92 : decode cX3_renews 92 = .ok (.ireturn, 1) := by decide +kernel
theorem dX3_readWithNothingDue_0 : decode cX3_readWithNothingDue 0 = .ok (.aload_n 0, 1) := by decide +kernel
theorem dX3_readWithNothingDue_1 : decode cX3_readWithNothingDue 1 = .ok (.getfield 12, 3) := by decide +kernel
theorem dX3_readWithNothingDue_4 : decode cX3_readWithNothingDue 4 = .ok (.aload_n 0, 1) := by decide +kernel
theorem dX3_readWithNothingDue_5 : decode cX3_readWithNothingDue 5 = .ok (.getfield 51, 3) := by decide +kernel
theorem dX3_readWithNothingDue_8 : decode cX3_readWithNothingDue 8 = .ok (.iload_n 2, 1) := by decide +kernel
theorem dX3_readWithNothingDue_9 : decode cX3_readWithNothingDue 9 = .ok (.invokevirtual 117, 3) := by decide +kernel
theorem dX3_readWithNothingDue_12 : decode cX3_readWithNothingDue 12 = .ok (.istore_n 3, 1) := by decide +kernel
theorem dX3_readWithNothingDue_13 : decode cX3_readWithNothingDue 13 = .ok (.iload_n 2, 1) := by decide +kernel
theorem dX3_readWithNothingDue_14 : decode cX3_readWithNothingDue 14 = .ok (.invokestatic 127, 3) := by decide +kernel
theorem dX3_readWithNothingDue_17 : decode cX3_readWithNothingDue 17 = .ok (.ifCond .eq 19, 3) := by decide +kernel
theorem dX3_readWithNothingDue_20 : decode cX3_readWithNothingDue 20 = .ok (.aload_n 0, 1) := by decide +kernel
theorem dX3_readWithNothingDue_21 : decode cX3_readWithNothingDue 21 = .ok (.getfield 23, 3) := by decide +kernel
theorem dX3_readWithNothingDue_24 : decode cX3_readWithNothingDue 24 = .ok (.iload_n 1, 1) := by decide +kernel
theorem dX3_readWithNothingDue_25 : decode cX3_readWithNothingDue 25 = .ok (.iconst 0, 1) := by decide +kernel
theorem dX3_readWithNothingDue_26 : decode cX3_readWithNothingDue 26 = .ok (.invokevirtual 90, 3) := by decide +kernel
theorem dX3_readWithNothingDue_29 : decode cX3_readWithNothingDue 29 = .ok (.aload_n 0, 1) := by decide +kernel
theorem dX3_readWithNothingDue_30 : decode cX3_readWithNothingDue 30 = .ok (.invokevirtual 131, 3) := by decide +kernel
theorem dX3_readWithNothingDue_33 : decode cX3_readWithNothingDue 33 = .ok (.goto 108, 3) := by decide +kernel
theorem dX3_readWithNothingDue_36 : decode cX3_readWithNothingDue 36 = .ok (.iload_n 2, 1) := by decide +kernel
