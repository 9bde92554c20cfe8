theorem dX0_docAt_0 : decode cX0_docAt 0 = .ok (.iload_n 1, 1) := by decide +kernel
theorem dX0_docAt_1 : decode cX0_docAt 1 = .ok (.ifCond .lt 21, 3) := by decide +kernel
theorem dX0_docAt_4 : decode cX0_docAt 4 = .ok (.iload_n 1, 1) := by decide +kernel
theorem dX0_docAt_5 : decode cX0_docAt 5 = .ok (.aload_n 0, 1) := by decide +kernel
theorem dX0_docAt_6 : decode cX0_docAt 6 = .ok (.getfield 7, 3) := by decide +kernel
theorem dX0_docAt_9 : decode cX0_docAt 9 = .ok (.arraylength, 1) := by decide +kernel
theorem dX0_docAt_10 : decode cX0_docAt 10 = .ok (.if_icmp .ge 12, 3) := by decide +kernel
theorem dX0_docAt_22 : decode cX0_docAt 22 = .ok (.aconst_null, 1) := by decide +kernel
theorem dX0_docAt_23 : decode cX0_docAt 23 = .ok (.areturn, 1) := by decide +kernel
theorem dX0_patternAt_0 : decode cX0_patternAt 0 = .ok (.iload_n 1, 1) := by decide +kernel
theorem dX0_patternAt_1 : decode cX0_patternAt 1 = .ok (.ifCond .lt 21, 3) := by decide +kernel
theorem dX0_patternAt_4 : decode cX0_patternAt 4 = .ok (.iload_n 1, 1) := by decide +kernel
theorem dX0_patternAt_5 : decode cX0_patternAt 5 = .ok (.aload_n 0, 1) := by decide +kernel
theorem dX0_patternAt_6 : decode cX0_patternAt 6 = .ok (.getfield 13, 3) := by decide +kernel
theorem dX0_patternAt_9 : decode cX0_patternAt 9 = .ok (.arraylength, 1) := by decide +kernel
theorem dX0_patternAt_10 : decode cX0_patternAt 10 = .ok (.if_icmp .ge 12, 3) := by decide +kernel
theorem dX0_patternAt_22 : decode cX0_patternAt 22 = .ok (.aconst_null, 1) := by decide +kernel
theorem dX0_patternAt_23 : decode cX0_patternAt 23 = .ok (.areturn, 1) := by decide +kernel
theorem dX0_listBits_0 : decode cX0_listBits 0 = .ok (.iconst 0, 1) := by decide +kernel
theorem dX0_listBits_1 : decode cX0_listBits 1 = .ok (.istore_n 2, 1) := by decide +kernel
theorem dX0_listBits_2 : decode cX0_listBits 2 = .ok (.iconst 0, 1) := by decide +kernel
theorem dX0_listBits_3 : decode cX0_listBits 3 = .ok (.istore_n 3, 1) := by decide +kernel
theorem dX0_listBits_4 : decode cX0_listBits 4 = .ok (.iload_n 3, 1) := by decide +kernel
theorem dX0_listBits_5 : decode cX0_listBits 5 = .ok (.aload_n 0, 1) := by decide +kernel
theorem dX0_listBits_6 : decode cX0_listBits 6 = .ok (.getfield 7, 3) := by decide +kernel
theorem dX0_listBits_9 : decode cX0_listBits 9 = .ok (.arraylength, 1) := by decide +kernel
theorem dX0_listBits_10 : decode cX0_listBits 10 = .ok (.if_icmp .ge 37, 3) := by decide +kernel
theorem dX0_listBits_47 : decode cX0_listBits 47 = .ok (.iload_n 2, 1) := by decide +kernel
theorem dX0_listBits_48 : decode cX0_listBits 48 = .ok (.ireturn, 1) := by decide +kernel
theorem dX0_allLetters_0 : decode cX0_allLetters 0 = .ok (.iconst 0, 1) := by decide +kernel
theorem dX0_allLetters_1 : decode cX0_allLetters 1 = .ok (.istore_n 1, 1) := by decide +kernel
theorem dX0_allLetters_2 : decode cX0_allLetters 2 = .ok (.iconst 0, 1) := by decide +kernel
theorem dX0_allLetters_3 : decode cX0_allLetters 3 = .ok (.istore_n 2, 1) := by decide +kernel
theorem dX0_allLetters_4 : decode cX0_allLetters 4 = .ok (.iload_n 2, 1) := by decide +kernel
theorem dX0_allLetters_5 : decode cX0_allLetters 5 = .ok (.aload_n 0, 1) := by decide +kernel
theorem dX0_allLetters_6 : decode cX0_allLetters 6 = .ok (.getfield 7, 3) := by decide +kernel
theorem dX0_allLetters_9 : decode cX0_allLetters 9 = .ok (.arraylength, 1) := by decide +kernel
theorem dX0_allLetters_10 : decode cX0_allLetters 10 = .ok (.if_icmp .ge 35, 3) := by decide +kernel
theorem dX0_allLetters_45 : decode cX0_allLetters 45 = .ok (.iload_n 1, 1) := by decide +kernel
theorem dX0_allLetters_46 : decode cX0_allLetters 46 = .ok (.ireturn, 1) := by decide +kernel
theorem dX0_allTriples_0 : decode cX0_allTriples 0 = .ok (.iconst 0, 1) := by decide +kernel
theorem dX0_allTriples_1 : decode cX0_allTriples 1 = .ok (.istore_n 1, 1) := by decide +kernel
theorem dX0_allTriples_2 : decode cX0_allTriples 2 = .ok (.iconst 0, 1) := by decide +kernel
theorem dX0_allTriples_3 : decode cX0_allTriples 3 = .ok (.istore_n 2, 1) := by decide +kernel
theorem dX0_allTriples_4 : decode cX0_allTriples 4 = .ok (.iload_n 2, 1) := by decide +kernel
theorem dX0_allTriples_5 : decode cX0_allTriples 5 = .ok (.aload_n 0, 1) := by decide +kernel
theorem dX0_allTriples_6 : decode cX0_allTriples 6 = .ok (.getfield 7, 3) := by decide +kernel
theorem dX0_allTriples_9 : decode cX0_allTriples 9 = .ok (.arraylength, 1) := by decide +kernel
theorem dX0_allTriples_10 : decode cX0_allTriples 10 = .ok (.if_icmp .ge 74, 3) := by decide +kernel
theorem dX0_allTriples_84 : decode cX0_allTriples 84 = .ok (.iload_n 1, 1) := by decide +kernel
theorem dX0_allTriples_85 : decode cX0_allTriples 85 = .ok (.ireturn, 1) := by decide +kernel
theorem dX9_status_0 : decode cX9_status 0 = .ok (.aload_n 0, 1) := by decide +kernel
theorem dX9_status_1 : decode cX9_status 1 = .ok (.getfield 70, 3) := by decide +kernel
theorem dX9_status_4 : decode cX9_status 4 = .ok (.ireturn, 1) := by decide +kernel
theorem dX9_feed_0 : decode cX9_feed 0 = .ok (.aload_n 0, 1) := by decide +kernel
theorem dX9_feed_1 : decode cX9_feed 1 = .ok (.getfield 73, 3) := by decide +kernel
theorem dX9_feed_4 : decode cX9_feed 4 = .ok (.bipush 20, 2) := by decide +kernel
theorem dX9_feed_6 : decode cX9_feed 6 = .ok (.iadd, 1) := by decide +kernel
theorem dX9_feed_7 : decode cX9_feed 7 = .ok (.sipush 900, 3) := by decide +kernel
theorem dX9_feed_10 : decode cX9_feed 10 = .ok (.if_icmp .le 5, 3) := by decide +kernel
theorem dX9_feed_15 : decode cX9_feed 15 = .ok (.aload_n 0, 1) := by decide +kernel
theorem dX9_feed_16 : decode cX9_feed 16 = .ok (.iload_n 1, 1) := by decide +kernel
theorem dX9_feed_17 : decode cX9_feed 17 = .ok (.invokevirtual 76, 3) := by decide +kernel
theorem dX9_feed_20 : decode cX9_feed 20 = .ok (.aload_n 0, 1) := by decide +kernel
theorem dX9_feed_21 : decode cX9_feed 21 = .ok (.iload_n 2, 1) := by decide +kernel
theorem dX9_feed_22 : decode cX9_feed 22 = .ok (.invokevirtual 76, 3) := by decide +kernel
theorem dX9_feed_25 : decode cX9_feed 25 = .ok (.aload_n 0, 1) := by decide +kernel
theorem dX9_feed_26 : decode cX9_feed 26 = .ok (.iload_n 3, 1) := by decide +kernel
theorem dX9_feed_27 : decode cX9_feed 27 = .ok (.invokevirtual 76, 3) := by decide +kernel
theorem dX9_feed_30 : decode cX9_feed 30 = .ok (.aload_n 0, 1) := by decide +kernel
theorem dX9_feed_31 : decode cX9_feed 31 = .ok (.iload 4, 2) := by decide +kernel
theorem dX9_feed_33 : decode cX9_feed 33 = .ok (.invokevirtual 76, 3) := by decide +kernel
theorem dX9_feed_36 : decode cX9_feed 36 = .ok (.aload_n 0, 1) := by decide +kernel
theorem dX9_feed_37 : decode cX9_feed 37 = .ok (.iload 5, 2) := by decide +kernel
theorem dX9_feed_39 : decode cX9_feed 39 = .ok (.invokevirtual 76, 3) := by decide +kernel
theorem dX9_feed_42 : decode cX9_feed 42 = .ok (.aload_n 0, 1) := by decide +kernel
theorem dX9_feed_43 : decode cX9_feed 43 = .ok (.getfield 73, 3) := by decide +kernel
theorem dX9_feed_46 : decode cX9_feed 46 = .ok (.ireturn, 1) := by decide +kernel
theorem dX9_fault_0 : decode cX9_fault 0 = .ok (.iload_n 1, 1) := by decide +kernel
theorem dX9_fault_1 : decode cX9_fault 1 = .ok (.ifCond .ne 8, 3) := by decide +kernel
theorem dX9_fault_4 : decode cX9_fault 4 = .ok (.aload_n 0, 1) := by decide +kernel
theorem dX9_fault_5 : decode cX9_fault 5 = .ok (.getfield 13, 3) := by decide +kernel
theorem dX9_fault_8 : decode cX9_fault 8 = .ok (.ireturn, 1) := by decide +kernel
theorem dX9_fault_9 : decode cX9_fault 9 = .ok (.iload_n 1, 1) := by decide +kernel
theorem dX9_fault_10 : decode cX9_fault 10 = .ok (.iconst 1, 1) := by decide +kernel
theorem dX9_fault_11 : decode cX9_fault 11 = .ok (.if_icmp .ne 10, 3) := by decide +kernel
theorem dX9_fault_14 : decode cX9_fault 14 = .ok (.aload_n 0, 1) := by decide +kernel
theorem dX9_fault_15 : decode cX9_fault 15 = .ok (.getfield 17, 3) := by decide +kernel
theorem dX9_fault_18 : decode cX9_fault 18 = .ok (.goto 4, 3) := by decide +kernel
theorem dX9_fault_21 : decode cX9_fault 21 = .ok (.iconst (-1), 1) := by decide +kernel
theorem dX9_fault_22 : decode cX9_fault 22 = .ok (.ireturn, 1) := by decide +kernel
theorem dX9_many_0 : decode cX9_many 0 = .ok (.iload_n 1, 1) := by decide +kernel
theorem dX9_many_1 : decode cX9_many 1 = .ok (.tableswitch 107 0 5 #[39, 52, 65, 77, 89, 98], 39) := by decide +kernel
theorem dX9_many_40 : decode cX9_many 40 = .ok (.aload_n 0, 1) := by decide +kernel
theorem dX9_many_41 : decode cX9_many 41 = .ok (.aload_n 0, 1) := by decide +kernel
theorem dX9_many_42 : decode cX9_many 42 = .ok (.getfield 29, 3) := by decide +kernel
theorem dX9_many_45 : decode cX9_many 45 = .ok (.getfield 96, 3) := by decide +kernel
theorem dX9_many_48 : decode cX9_many 48 = .ok (.arraylength, 1) := by decide +kernel
theorem dX9_many_49 : decode cX9_many 49 = .ok (.invokevirtual 100, 3) := by decide +kernel
theorem dX9_many_52 : decode cX9_many 52 = .ok (.ireturn, 1) := by decide +kernel
theorem dX9_many_53 : decode cX9_many 53 = .ok (.aload_n 0, 1) := by decide +kernel
theorem dX9_many_54 : decode cX9_many 54 = .ok (.aload_n 0, 1) := by decide +kernel
theorem dX9_many_55 : decode cX9_many 55 = .ok (.getfield 29, 3) := by decide +kernel
theorem dX9_many_58 : decode cX9_many 58 = .ok (.getfield 103, 3) := by decide +kernel
theorem dX9_many_61 : decode cX9_many 61 = .ok (.arraylength, 1) := by decide +kernel
theorem dX9_many_62 : decode cX9_many 62 = .ok (.invokevirtual 100, 3) := by decide +kernel
theorem dX9_many_65 : decode cX9_many 65 = .ok (.ireturn, 1) := by decide +kernel
theorem dX9_many_66 : decode cX9_many 66 = .ok (.aload_n 0, 1) := by decide +kernel
theorem dX9_many_67 : decode cX9_many 67 = .ok (.aload_n 0, 1) := by decide +kernel
theorem dX9_many_68 : decode cX9_many 68 = .ok (.getfield 29, 3) := by decide +kernel
theorem dX9_many_71 : decode cX9_many 71 = .ok (.invokevirtual 110, 3) := by decide +kernel
theorem dX9_many_74 : decode cX9_many 74 = .ok (.invokevirtual 100, 3) := by decide +kernel
theorem dX9_many_77 : decode cX9_many 77 = .ok (.ireturn, 1) := by decide +kernel
theorem dX9_many_78 : decode cX9_many 78 = .ok (.aload_n 0, 1) := by decide +kernel
theorem dX9_many_79 : decode cX9_many 79 = .ok (.aload_n 0, 1) := by decide +kernel
theorem dX9_many_80 : decode cX9_many 80 = .ok (.getfield 29, 3) := by decide +kernel
theorem dX9_many_83 : decode cX9_many 83 = .ok (.invokevirtual 114, 3) := by decide +kernel
theorem dX9_many_86 : decode cX9_many 86 = .ok (.invokevirtual 100, 3) := by decide +kernel
theorem dX9_many_89 : decode cX9_many 89 = .ok (.ireturn, 1) := by decide +kernel
theorem dX9_many_90 : decode cX9_many 90 = .ok (.aload_n 0, 1) := by decide +kernel
theorem dX9_many_91 : decode cX9_many 91 = .ok (.aload_n 0, 1) := by decide +kernel
theorem dX9_many_92 : decode cX9_many 92 = .ok (.getfield 117, 3) := by decide +kernel
theorem dX9_many_95 : decode cX9_many 95 = .ok (.invokevirtual 100, 3) := by decide +kernel
theorem dX9_many_98 : decode cX9_many 98 = .ok (.ireturn, 1) := by decide +kernel
theorem dX9_many_99 : decode cX9_many 99 = .ok (.aload_n 0, 1) := by decide +kernel
theorem dX9_many_100 : decode cX9_many 100 = .ok (.aload_n 0, 1) := by decide +kernel
theorem dX9_many_101 : decode cX9_many 101 = .ok (.getfield 120, 3) := by decide +kernel
theorem dX9_many_104 : decode cX9_many 104 = .ok (.invokevirtual 100, 3) := by decide +kernel
theorem dX9_many_107 : decode cX9_many 107 = .ok (.ireturn, 1) := by decide +kernel
theorem dX9_many_108 : decode cX9_many 108 = .ok (.aload_n 0, 1) := by decide +kernel
theorem dX9_many_109 : decode cX9_many 109 = .ok (.iconst 1, 1) := by decide +kernel
theorem dX9_many_110 : decode cX9_many 110 = .ok (.invokevirtual 80, 3) := by decide +kernel
theorem dX9_many_113 : decode cX9_many 113 = .ok (.ireturn, 1) := by decide +kernel
theorem dX9_document_0 : decode cX9_document 0 = .ok (.iload_n 2, 1) := by decide +kernel
theorem dX9_document_1 : decode cX9_document 1 = .ok (.ifCond .lt 8, 3) := by decide +kernel
theorem dX9_document_4 : decode cX9_document 4 = .ok (.iload_n 2, 1) := by decide +kernel
theorem dX9_document_5 : decode cX9_document 5 = .ok (.iconst 3, 1) := by decide +kernel
theorem dX9_document_6 : decode cX9_document 6 = .ok (.if_icmp .le 9, 3) := by decide +kernel
theorem dX9_document_9 : decode cX9_document 9 = .ok (.aload_n 0, 1) := by decide +kernel
theorem dX9_document_10 : decode cX9_document 10 = .ok (.iconst 1, 1) := by decide +kernel
theorem dX9_document_11 : decode cX9_document 11 = .ok (.invokevirtual 80, 3) := by decide +kernel
theorem dX9_document_14 : decode cX9_document 14 = .ok (.ireturn, 1) := by decide +kernel
theorem dX9_document_15 : decode cX9_document 15 = .ok (.aload_n 0, 1) := by decide +kernel
theorem dX9_document_16 : decode cX9_document 16 = .ok (.getfield 29, 3) := by decide +kernel
theorem dX9_document_19 : decode cX9_document 19 = .ok (.iload_n 1, 1) := by decide +kernel
theorem dX9_document_20 : decode cX9_document 20 = .ok (.invokevirtual 123, 3) := by decide +kernel
theorem dX9_document_23 : decode cX9_document 23 = .ok (.astore_n 3, 1) := by decide +kernel
theorem dX9_document_24 : decode cX9_document 24 = .ok (.aload_n 3, 1) := by decide +kernel
theorem dX9_document_25 : decode cX9_document 25 = .ok (.ifnonnull 9, 3) := by decide +kernel
theorem dX9_document_28 : decode cX9_document 28 = .ok (.aload_n 0, 1) := by decide +kernel
theorem dX9_document_29 : decode cX9_document 29 = .ok (.iconst 2, 1) := by decide +kernel
theorem dX9_document_30 : decode cX9_document 30 = .ok (.invokevirtual 80, 3) := by decide +kernel
theorem dX9_document_33 : decode cX9_document 33 = .ok (.ireturn, 1) := by decide +kernel
theorem dX9_letter_0 : decode cX9_letter 0 = .ok (.iload_n 2, 1) := by decide +kernel
theorem dX9_letter_1 : decode cX9_letter 1 = .ok (.ifCond .ge 9, 3) := by decide +kernel
theorem dX9_letter_4 : decode cX9_letter 4 = .ok (.aload_n 0, 1) := by decide +kernel
theorem dX9_letter_5 : decode cX9_letter 5 = .ok (.iconst 1, 1) := by decide +kernel
theorem dX9_letter_6 : decode cX9_letter 6 = .ok (.invokevirtual 80, 3) := by decide +kernel
theorem dX9_letter_9 : decode cX9_letter 9 = .ok (.ireturn, 1) := by decide +kernel
theorem dX9_letter_10 : decode cX9_letter 10 = .ok (.aload_n 0, 1) := by decide +kernel
theorem dX9_letter_11 : decode cX9_letter 11 = .ok (.getfield 29, 3) := by decide +kernel
theorem dX9_letter_14 : decode cX9_letter 14 = .ok (.iload_n 1, 1) := by decide +kernel
theorem dX9_letter_15 : decode cX9_letter 15 = .ok (.invokevirtual 123, 3) := by decide +kernel
theorem dX9_letter_18 : decode cX9_letter 18 = .ok (.astore_n 3, 1) := by decide +kernel
theorem dX9_letter_19 : decode cX9_letter 19 = .ok (.aload_n 3, 1) := by decide +kernel
theorem dX9_letter_20 : decode cX9_letter 20 = .ok (.ifnonnull 9, 3) := by decide +kernel
theorem dX9_letter_23 : decode cX9_letter 23 = .ok (.aload_n 0, 1) := by decide +kernel
theorem dX9_letter_24 : decode cX9_letter 24 = .ok (.iconst 2, 1) := by decide +kernel
theorem dX9_letter_25 : decode cX9_letter 25 = .ok (.invokevirtual 80, 3) := by decide +kernel
theorem dX9_letter_28 : decode cX9_letter 28 = .ok (.ireturn, 1) := by decide +kernel
theorem dX9_pattern_0 : decode cX9_pattern 0 = .ok (.iload_n 2, 1) := by decide +kernel
theorem dX9_pattern_1 : decode cX9_pattern 1 = .ok (.ifCond .lt 9, 3) := by decide +kernel
theorem dX9_pattern_4 : decode cX9_pattern 4 = .ok (.iload_n 2, 1) := by decide +kernel
theorem dX9_pattern_5 : decode cX9_pattern 5 = .ok (.bipush 7, 2) := by decide +kernel
theorem dX9_pattern_7 : decode cX9_pattern 7 = .ok (.if_icmp .le 9, 3) := by decide +kernel
theorem dX9_pattern_10 : decode cX9_pattern 10 = .ok (.aload_n 0, 1) := by decide +kernel
theorem dX9_pattern_11 : decode cX9_pattern 11 = .ok (.iconst 1, 1) := by decide +kernel
theorem dX9_pattern_12 : decode cX9_pattern 12 = .ok (.invokevirtual 80, 3) := by decide +kernel
theorem dX9_pattern_15 : decode cX9_pattern 15 = .ok (.ireturn, 1) := by decide +kernel
theorem dX9_pattern_16 : decode cX9_pattern 16 = .ok (.aload_n 0, 1) := by decide +kernel
theorem dX9_pattern_17 : decode cX9_pattern 17 = .ok (.getfield 29, 3) := by decide +kernel
theorem dX9_pattern_20 : decode cX9_pattern 20 = .ok (.iload_n 1, 1) := by decide +kernel
theorem dX9_pattern_21 : decode cX9_pattern 21 = .ok (.invokevirtual 140, 3) := by decide +kernel
theorem dX9_pattern_24 : decode cX9_pattern 24 = .ok (.astore_n 3, 1) := by decide +kernel
theorem dX9_pattern_25 : decode cX9_pattern 25 = .ok (.aload_n 3, 1) := by decide +kernel
theorem dX9_pattern_26 : decode cX9_pattern 26 = .ok (.ifnonnull 9, 3) := by decide +kernel
theorem dX9_pattern_29 : decode cX9_pattern 29 = .ok (.aload_n 0, 1) := by decide +kernel
theorem dX9_pattern_30 : decode cX9_pattern 30 = .ok (.iconst 2, 1) := by decide +kernel
theorem dX9_pattern_31 : decode cX9_pattern 31 = .ok (.invokevirtual 80, 3) := by decide +kernel
theorem dX9_pattern_34 : decode cX9_pattern 34 = .ok (.ireturn, 1) := by decide +kernel
theorem dX9_sign_0 : decode cX9_sign 0 = .ok (.iload_n 2, 1) := by decide +kernel
theorem dX9_sign_1 : decode cX9_sign 1 = .ok (.ifCond .ge 9, 3) := by decide +kernel
theorem dX9_sign_4 : decode cX9_sign 4 = .ok (.aload_n 0, 1) := by decide +kernel
theorem dX9_sign_5 : decode cX9_sign 5 = .ok (.iconst 1, 1) := by decide +kernel
theorem dX9_sign_6 : decode cX9_sign 6 = .ok (.invokevirtual 80, 3) := by decide +kernel
theorem dX9_sign_9 : decode cX9_sign 9 = .ok (.ireturn, 1) := by decide +kernel
theorem dX9_sign_10 : decode cX9_sign 10 = .ok (.aload_n 0, 1) := by decide +kernel
theorem dX9_sign_11 : decode cX9_sign 11 = .ok (.getfield 29, 3) := by decide +kernel
theorem dX9_sign_14 : decode cX9_sign 14 = .ok (.iload_n 1, 1) := by decide +kernel
theorem dX9_sign_15 : decode cX9_sign 15 = .ok (.invokevirtual 140, 3) := by decide +kernel
theorem dX9_sign_18 : decode cX9_sign 18 = .ok (.astore_n 3, 1) := by decide +kernel
theorem dX9_sign_19 : decode cX9_sign 19 = .ok (.aload_n 3, 1) := by decide +kernel
theorem dX9_sign_20 : decode cX9_sign 20 = .ok (.ifnonnull 9, 3) := by decide +kernel
theorem dX9_sign_23 : decode cX9_sign 23 = .ok (.aload_n 0, 1) := by decide +kernel
theorem dX9_sign_24 : decode cX9_sign 24 = .ok (.iconst 2, 1) := by decide +kernel
theorem dX9_sign_25 : decode cX9_sign 25 = .ok (.invokevirtual 80, 3) := by decide +kernel
theorem dX9_sign_28 : decode cX9_sign 28 = .ok (.ireturn, 1) := by decide +kernel
theorem dX9_exact_0 : decode cX9_exact 0 = .ok (.iload_n 2, 1) := by decide +kernel
theorem dX9_exact_1 : decode cX9_exact 1 = .ok (.ifCond .lt 7, 3) := by decide +kernel
theorem dX9_exact_4 : decode cX9_exact 4 = .ok (.iload_n 3, 1) := by decide +kernel
theorem dX9_exact_5 : decode cX9_exact 5 = .ok (.ifCond .ge 9, 3) := by decide +kernel
theorem dX9_exact_8 : decode cX9_exact 8 = .ok (.aload_n 0, 1) := by decide +kernel
theorem dX9_exact_9 : decode cX9_exact 9 = .ok (.iconst 1, 1) := by decide +kernel
theorem dX9_exact_10 : decode cX9_exact 10 = .ok (.invokevirtual 80, 3) := by decide +kernel
theorem dX9_exact_13 : decode cX9_exact 13 = .ok (.ireturn, 1) := by decide +kernel
theorem dX9_exact_14 : decode cX9_exact 14 = .ok (.aload_n 0, 1) := by decide +kernel
theorem dX9_exact_15 : decode cX9_exact 15 = .ok (.getfield 29, 3) := by decide +kernel
theorem dX9_exact_18 : decode cX9_exact 18 = .ok (.iload_n 1, 1) := by decide +kernel
theorem dX9_exact_19 : decode cX9_exact 19 = .ok (.invokevirtual 140, 3) := by decide +kernel
theorem dX9_exact_22 : decode cX9_exact 22 = .ok (.astore 4, 2) := by decide +kernel
theorem dX9_exact_24 : decode cX9_exact 24 = .ok (.aload 4, 2) := by decide +kernel
theorem dX9_exact_26 : decode cX9_exact 26 = .ok (.ifnonnull 9, 3) := by decide +kernel
theorem dX9_exact_29 : decode cX9_exact 29 = .ok (.aload_n 0, 1) := by decide +kernel
theorem dX9_exact_30 : decode cX9_exact 30 = .ok (.iconst 2, 1) := by decide +kernel
theorem dX9_exact_31 : decode cX9_exact 31 = .ok (.invokevirtual 80, 3) := by decide +kernel
theorem dX9_exact_34 : decode cX9_exact 34 = .ok (.ireturn, 1) := by decide +kernel
theorem dX9_need_0 : decode cX9_need 0 = .ok (.iload_n 2, 1) := by decide +kernel
theorem dX9_need_1 : decode cX9_need 1 = .ok (.ifCond .lt 7, 3) := by decide +kernel
theorem dX9_need_4 : decode cX9_need 4 = .ok (.iload_n 3, 1) := by decide +kernel
theorem dX9_need_5 : decode cX9_need 5 = .ok (.ifCond .ge 9, 3) := by decide +kernel
theorem dX9_need_8 : decode cX9_need 8 = .ok (.aload_n 0, 1) := by decide +kernel
theorem dX9_need_9 : decode cX9_need 9 = .ok (.iconst 1, 1) := by decide +kernel
theorem dX9_need_10 : decode cX9_need 10 = .ok (.invokevirtual 80, 3) := by decide +kernel
theorem dX9_need_13 : decode cX9_need 13 = .ok (.ireturn, 1) := by decide +kernel
theorem dX9_need_14 : decode cX9_need 14 = .ok (.aload_n 0, 1) := by decide +kernel
theorem dX9_need_15 : decode cX9_need 15 = .ok (.getfield 29, 3) := by decide +kernel
theorem dX9_need_18 : decode cX9_need 18 = .ok (.iload_n 1, 1) := by decide +kernel
theorem dX9_need_19 : decode cX9_need 19 = .ok (.invokevirtual 140, 3) := by decide +kernel
theorem dX9_need_22 : decode cX9_need 22 = .ok (.astore 4, 2) := by decide +kernel
theorem dX9_need_24 : decode cX9_need 24 = .ok (.aload 4, 2) := by decide +kernel
theorem dX9_need_26 : decode cX9_need 26 = .ok (.ifnonnull 9, 3) := by decide +kernel
theorem dX9_need_29 : decode cX9_need 29 = .ok (.aload_n 0, 1) := by decide +kernel
theorem dX9_need_30 : decode cX9_need 30 = .ok (.iconst 2, 1) := by decide +kernel
theorem dX9_need_31 : decode cX9_need 31 = .ok (.invokevirtual 80, 3) := by decide +kernel
theorem dX9_need_34 : decode cX9_need 34 = .ok (.ireturn, 1) := by decide +kernel
theorem dX9_list_0 : decode cX9_list 0 = .ok (.iload_n 1, 1) := by decide +kernel
theorem dX9_list_1 : decode cX9_list 1 = .ok (.invokestatic 190, 3) := by decide +kernel
theorem dX9_list_4 : decode cX9_list 4 = .ok (.ifCond .eq 7, 3) := by decide +kernel
theorem dX9_list_7 : decode cX9_list 7 = .ok (.iload_n 2, 1) := by decide +kernel
theorem dX9_list_8 : decode cX9_list 8 = .ok (.ifCond .ge 9, 3) := by decide +kernel
theorem dX9_list_11 : decode cX9_list 11 = .ok (.aload_n 0, 1) := by decide +kernel
theorem dX9_list_12 : decode cX9_list 12 = .ok (.iconst 1, 1) := by decide +kernel
theorem dX9_list_13 : decode cX9_list 13 = .ok (.invokevirtual 80, 3) := by decide +kernel
theorem dX9_list_16 : decode cX9_list 16 = .ok (.ireturn, 1) := by decide +kernel
theorem dX9_list_17 : decode cX9_list 17 = .ok (.aload_n 0, 1) := by decide +kernel
theorem dX9_list_18 : decode cX9_list 18 = .ok (.getfield 29, 3) := by decide +kernel
theorem dX9_list_21 : decode cX9_list 21 = .ok (.iload_n 1, 1) := by decide +kernel
theorem dX9_list_22 : decode cX9_list 22 = .ok (.invokevirtual 194, 3) := by decide +kernel
theorem dX9_list_25 : decode cX9_list 25 = .ok (.istore_n 3, 1) := by decide +kernel
theorem dX9_list_26 : decode cX9_list 26 = .ok (.iload_n 2, 1) := by decide +kernel
theorem dX9_list_27 : decode cX9_list 27 = .ok (.iload_n 3, 1) := by decide +kernel
theorem dX9_list_28 : decode cX9_list 28 = .ok (.invokestatic 197, 3) := by decide +kernel
theorem dX9_list_31 : decode cX9_list 31 = .ok (.if_icmp .lt 9, 3) := by decide +kernel
theorem dX9_list_34 : decode cX9_list 34 = .ok (.aload_n 0, 1) := by decide +kernel
theorem dX9_list_35 : decode cX9_list 35 = .ok (.iconst 5, 1) := by decide +kernel
theorem dX9_list_36 : decode cX9_list 36 = .ok (.invokevirtual 80, 3) := by decide +kernel
theorem dX9_list_39 : decode cX9_list 39 = .ok (.ireturn, 1) := by decide +kernel
theorem dX9_often_0 : decode cX9_often 0 = .ok (.iload_n 2, 1) := by decide +kernel
theorem dX9_often_1 : decode cX9_often 1 = .ok (.invokestatic 190, 3) := by decide +kernel
theorem dX9_often_4 : decode cX9_often 4 = .ok (.ifCond .ne 9, 3) := by decide +kernel
theorem dX9_often_7 : decode cX9_often 7 = .ok (.aload_n 0, 1) := by decide +kernel
theorem dX9_often_8 : decode cX9_often 8 = .ok (.iconst 1, 1) := by decide +kernel
theorem dX9_often_9 : decode cX9_often 9 = .ok (.invokevirtual 80, 3) := by decide +kernel
theorem dX9_often_12 : decode cX9_often 12 = .ok (.ireturn, 1) := by decide +kernel
theorem dX9_often_13 : decode cX9_often 13 = .ok (.aload_n 0, 1) := by decide +kernel
theorem dX9_often_14 : decode cX9_often 14 = .ok (.getfield 29, 3) := by decide +kernel
theorem dX9_often_17 : decode cX9_often 17 = .ok (.iload_n 1, 1) := by decide +kernel
theorem dX9_often_18 : decode cX9_often 18 = .ok (.invokevirtual 123, 3) := by decide +kernel
theorem dX9_often_21 : decode cX9_often 21 = .ok (.astore_n 3, 1) := by decide +kernel
theorem dX9_often_22 : decode cX9_often 22 = .ok (.aload_n 3, 1) := by decide +kernel
theorem dX9_often_23 : decode cX9_often 23 = .ok (.ifnonnull 9, 3) := by decide +kernel
theorem dX9_often_26 : decode cX9_often 26 = .ok (.aload_n 0, 1) := by decide +kernel
theorem dX9_often_27 : decode cX9_often 27 = .ok (.iconst 2, 1) := by decide +kernel
theorem dX9_often_28 : decode cX9_often 28 = .ok (.invokevirtual 80, 3) := by decide +kernel
theorem dX9_often_31 : decode cX9_often 31 = .ok (.ireturn, 1) := by decide +kernel
theorem dX9_gate_0 : decode cX9_gate 0 = .ok (.iload_n 2, 1) := by decide +kernel
theorem dX9_gate_1 : decode cX9_gate 1 = .ok (.ifCond .lt 8, 3) := by decide +kernel
theorem dX9_gate_4 : decode cX9_gate 4 = .ok (.iload_n 2, 1) := by decide +kernel
theorem dX9_gate_5 : decode cX9_gate 5 = .ok (.iconst 3, 1) := by decide +kernel
theorem dX9_gate_6 : decode cX9_gate 6 = .ok (.if_icmp .le 9, 3) := by decide +kernel
theorem dX9_gate_9 : decode cX9_gate 9 = .ok (.aload_n 0, 1) := by decide +kernel
theorem dX9_gate_10 : decode cX9_gate 10 = .ok (.iconst 1, 1) := by decide +kernel
theorem dX9_gate_11 : decode cX9_gate 11 = .ok (.invokevirtual 80, 3) := by decide +kernel
theorem dX9_gate_14 : decode cX9_gate 14 = .ok (.ireturn, 1) := by decide +kernel
theorem dX9_gate_15 : decode cX9_gate 15 = .ok (.aload_n 0, 1) := by decide +kernel
theorem dX9_gate_16 : decode cX9_gate 16 = .ok (.getfield 29, 3) := by decide +kernel
theorem dX9_gate_19 : decode cX9_gate 19 = .ok (.iload_n 1, 1) := by decide +kernel
theorem dX9_gate_20 : decode cX9_gate 20 = .ok (.invokevirtual 140, 3) := by decide +kernel
theorem dX9_gate_23 : decode cX9_gate 23 = .ok (.astore_n 3, 1) := by decide +kernel
theorem dX9_gate_24 : decode cX9_gate 24 = .ok (.aload_n 3, 1) := by decide +kernel
theorem dX9_gate_25 : decode cX9_gate 25 = .ok (.ifnonnull 9, 3) := by decide +kernel
theorem dX9_gate_28 : decode cX9_gate 28 = .ok (.aload_n 0, 1) := by decide +kernel
theorem dX9_gate_29 : decode cX9_gate 29 = .ok (.iconst 2, 1) := by decide +kernel
theorem dX9_gate_30 : decode cX9_gate 30 = .ok (.invokevirtual 80, 3) := by decide +kernel
theorem dX9_gate_33 : decode cX9_gate 33 = .ok (.ireturn, 1) := by decide +kernel
theorem dX9_match_0 : decode cX9_match 0 = .ok (.iload_n 3, 1) := by decide +kernel
theorem dX9_match_1 : decode cX9_match 1 = .ok (.ifCond .lt 8, 3) := by decide +kernel
theorem dX9_match_4 : decode cX9_match 4 = .ok (.iload_n 3, 1) := by decide +kernel
theorem dX9_match_5 : decode cX9_match 5 = .ok (.iconst 2, 1) := by decide +kernel
theorem dX9_match_6 : decode cX9_match 6 = .ok (.if_icmp .le 9, 3) := by decide +kernel
theorem dX9_match_9 : decode cX9_match 9 = .ok (.aload_n 0, 1) := by decide +kernel
theorem dX9_match_10 : decode cX9_match 10 = .ok (.iconst 1, 1) := by decide +kernel
theorem dX9_match_11 : decode cX9_match 11 = .ok (.invokevirtual 80, 3) := by decide +kernel
theorem dX9_match_14 : decode cX9_match 14 = .ok (.ireturn, 1) := by decide +kernel
theorem dX9_match_15 : decode cX9_match 15 = .ok (.aload_n 0, 1) := by decide +kernel
theorem dX9_match_16 : decode cX9_match 16 = .ok (.getfield 29, 3) := by decide +kernel
theorem dX9_match_19 : decode cX9_match 19 = .ok (.iload_n 1, 1) := by decide +kernel
theorem dX9_match_20 : decode cX9_match 20 = .ok (.invokevirtual 140, 3) := by decide +kernel
theorem dX9_match_23 : decode cX9_match 23 = .ok (.astore 4, 2) := by decide +kernel
theorem dX9_match_25 : decode cX9_match 25 = .ok (.aload_n 0, 1) := by decide +kernel
theorem dX9_match_26 : decode cX9_match 26 = .ok (.getfield 29, 3) := by decide +kernel
theorem dX9_match_29 : decode cX9_match 29 = .ok (.iload_n 2, 1) := by decide +kernel
theorem dX9_match_30 : decode cX9_match 30 = .ok (.invokevirtual 123, 3) := by decide +kernel
theorem dX9_match_33 : decode cX9_match 33 = .ok (.astore 5, 2) := by decide +kernel
theorem dX9_match_35 : decode cX9_match 35 = .ok (.aload 4, 2) := by decide +kernel
theorem dX9_match_37 : decode cX9_match 37 = .ok (.ifnull 8, 3) := by decide +kernel
theorem dX9_match_45 : decode cX9_match 45 = .ok (.aload_n 0, 1) := by decide +kernel
theorem dX9_match_46 : decode cX9_match 46 = .ok (.iconst 2, 1) := by decide +kernel
theorem dX9_match_47 : decode cX9_match 47 = .ok (.invokevirtual 80, 3) := by decide +kernel
theorem dX9_match_50 : decode cX9_match 50 = .ok (.ireturn, 1) := by decide +kernel
theorem dX9_alive_0 : decode cX9_alive 0 = .ok (.iload_n 3, 1) := by decide +kernel
theorem dX9_alive_1 : decode cX9_alive 1 = .ok (.ifCond .ge 9, 3) := by decide +kernel
theorem dX9_alive_4 : decode cX9_alive 4 = .ok (.aload_n 0, 1) := by decide +kernel
theorem dX9_alive_5 : decode cX9_alive 5 = .ok (.iconst 1, 1) := by decide +kernel
theorem dX9_alive_6 : decode cX9_alive 6 = .ok (.invokevirtual 80, 3) := by decide +kernel
theorem dX9_alive_9 : decode cX9_alive 9 = .ok (.ireturn, 1) := by decide +kernel
theorem dX9_alive_10 : decode cX9_alive 10 = .ok (.aload_n 0, 1) := by decide +kernel
theorem dX9_alive_11 : decode cX9_alive 11 = .ok (.getfield 29, 3) := by decide +kernel
theorem dX9_alive_14 : decode cX9_alive 14 = .ok (.iload_n 1, 1) := by decide +kernel
theorem dX9_alive_15 : decode cX9_alive 15 = .ok (.invokevirtual 140, 3) := by decide +kernel
theorem dX9_alive_18 : decode cX9_alive 18 = .ok (.astore 4, 2) := by decide +kernel
theorem dX9_alive_20 : decode cX9_alive 20 = .ok (.aload_n 0, 1) := by decide +kernel
theorem dX9_alive_21 : decode cX9_alive 21 = .ok (.getfield 29, 3) := by decide +kernel
theorem dX9_alive_24 : decode cX9_alive 24 = .ok (.iload_n 2, 1) := by decide +kernel
theorem dX9_alive_25 : decode cX9_alive 25 = .ok (.invokevirtual 123, 3) := by decide +kernel
theorem dX9_alive_28 : decode cX9_alive 28 = .ok (.astore 5, 2) := by decide +kernel
theorem dX9_alive_30 : decode cX9_alive 30 = .ok (.aload 4, 2) := by decide +kernel
theorem dX9_alive_32 : decode cX9_alive 32 = .ok (.ifnull 8, 3) := by decide +kernel
theorem dX9_alive_40 : decode cX9_alive 40 = .ok (.aload_n 0, 1) := by decide +kernel
theorem dX9_alive_41 : decode cX9_alive 41 = .ok (.iconst 2, 1) := by decide +kernel
theorem dX9_alive_42 : decode cX9_alive 42 = .ok (.invokevirtual 80, 3) := by decide +kernel
theorem dX9_alive_45 : decode cX9_alive 45 = .ok (.ireturn, 1) := by decide +kernel
theorem dX9_rarest_0 : decode cX9_rarest 0 = .ok (.aload_n 0, 1) := by decide +kernel
theorem dX9_rarest_1 : decode cX9_rarest 1 = .ok (.getfield 29, 3) := by decide +kernel
theorem dX9_rarest_4 : decode cX9_rarest 4 = .ok (.iload_n 1, 1) := by decide +kernel
theorem dX9_rarest_5 : decode cX9_rarest 5 = .ok (.invokevirtual 140, 3) := by decide +kernel
theorem dX9_rarest_8 : decode cX9_rarest 8 = .ok (.astore_n 2, 1) := by decide +kernel
theorem dX9_rarest_9 : decode cX9_rarest 9 = .ok (.aload_n 2, 1) := by decide +kernel
theorem dX9_rarest_10 : decode cX9_rarest 10 = .ok (.ifnonnull 9, 3) := by decide +kernel
theorem dX9_rarest_13 : decode cX9_rarest 13 = .ok (.aload_n 0, 1) := by decide +kernel
theorem dX9_rarest_14 : decode cX9_rarest 14 = .ok (.iconst 2, 1) := by decide +kernel
theorem dX9_rarest_15 : decode cX9_rarest 15 = .ok (.invokevirtual 80, 3) := by decide +kernel
theorem dX9_rarest_18 : decode cX9_rarest 18 = .ok (.ireturn, 1) := by decide +kernel
theorem dX9_within_0 : decode cX9_within 0 = .ok (.aload_n 0, 1) := by decide +kernel
theorem dX9_within_1 : decode cX9_within 1 = .ok (.getfield 29, 3) := by decide +kernel
theorem dX9_within_4 : decode cX9_within 4 = .ok (.iload_n 1, 1) := by decide +kernel
theorem dX9_within_5 : decode cX9_within 5 = .ok (.invokevirtual 140, 3) := by decide +kernel
theorem dX9_within_8 : decode cX9_within 8 = .ok (.astore_n 3, 1) := by decide +kernel
theorem dX9_within_9 : decode cX9_within 9 = .ok (.aload_n 0, 1) := by decide +kernel
theorem dX9_within_10 : decode cX9_within 10 = .ok (.getfield 29, 3) := by decide +kernel
theorem dX9_within_13 : decode cX9_within 13 = .ok (.iload_n 2, 1) := by decide +kernel
theorem dX9_within_14 : decode cX9_within 14 = .ok (.invokevirtual 140, 3) := by decide +kernel
theorem dX9_within_17 : decode cX9_within 17 = .ok (.astore 4, 2) := by decide +kernel
theorem dX9_within_19 : decode cX9_within 19 = .ok (.aload_n 3, 1) := by decide +kernel
theorem dX9_within_20 : decode cX9_within 20 = .ok (.ifnull 8, 3) := by decide +kernel
theorem dX9_within_28 : decode cX9_within 28 = .ok (.aload_n 0, 1) := by decide +kernel
theorem dX9_within_29 : decode cX9_within 29 = .ok (.iconst 2, 1) := by decide +kernel
theorem dX9_within_30 : decode cX9_within 30 = .ok (.invokevirtual 80, 3) := by decide +kernel
theorem dX9_within_33 : decode cX9_within 33 = .ok (.ireturn, 1) := by decide +kernel
theorem dX9_put_0 : decode cX9_put 0 = .ok (.iload_n 3, 1) := by decide +kernel
theorem dX9_put_1 : decode cX9_put 1 = .ok (.invokestatic 239, 3) := by decide +kernel
theorem dX9_put_4 : decode cX9_put 4 = .ok (.ifCond .eq 7, 3) := by decide +kernel
theorem dX9_put_7 : decode cX9_put 7 = .ok (.iload_n 2, 1) := by decide +kernel
theorem dX9_put_8 : decode cX9_put 8 = .ok (.ifCond .ge 9, 3) := by decide +kernel
theorem dX9_put_11 : decode cX9_put 11 = .ok (.aload_n 0, 1) := by decide +kernel
theorem dX9_put_12 : decode cX9_put 12 = .ok (.iconst 1, 1) := by decide +kernel
theorem dX9_put_13 : decode cX9_put 13 = .ok (.invokevirtual 80, 3) := by decide +kernel
theorem dX9_put_16 : decode cX9_put 16 = .ok (.ireturn, 1) := by decide +kernel
theorem dX9_put_17 : decode cX9_put 17 = .ok (.aload_n 0, 1) := by decide +kernel
theorem dX9_put_18 : decode cX9_put 18 = .ok (.getfield 29, 3) := by decide +kernel
theorem dX9_put_21 : decode cX9_put 21 = .ok (.iload_n 1, 1) := by decide +kernel
theorem dX9_put_22 : decode cX9_put 22 = .ok (.invokevirtual 123, 3) := by decide +kernel
theorem dX9_put_25 : decode cX9_put 25 = .ok (.astore 4, 2) := by decide +kernel
theorem dX9_put_27 : decode cX9_put 27 = .ok (.aload 4, 2) := by decide +kernel
theorem dX9_put_29 : decode cX9_put 29 = .ok (.ifnonnull 9, 3) := by decide +kernel
theorem dX9_put_32 : decode cX9_put 32 = .ok (.aload_n 0, 1) := by decide +kernel
theorem dX9_put_33 : decode cX9_put 33 = .ok (.iconst 2, 1) := by decide +kernel
theorem dX9_put_34 : decode cX9_put 34 = .ok (.invokevirtual 80, 3) := by decide +kernel
theorem dX9_put_37 : decode cX9_put 37 = .ok (.ireturn, 1) := by decide +kernel
theorem dX9_let_0 : decode cX9_let 0 = .ok (.iload_n 3, 1) := by decide +kernel
theorem dX9_let_1 : decode cX9_let 1 = .ok (.invokestatic 239, 3) := by decide +kernel
theorem dX9_let_4 : decode cX9_let 4 = .ok (.ifCond .eq 7, 3) := by decide +kernel
theorem dX9_let_7 : decode cX9_let 7 = .ok (.iload_n 2, 1) := by decide +kernel
theorem dX9_let_8 : decode cX9_let 8 = .ok (.ifCond .ge 9, 3) := by decide +kernel
theorem dX9_let_11 : decode cX9_let 11 = .ok (.aload_n 0, 1) := by decide +kernel
theorem dX9_let_12 : decode cX9_let 12 = .ok (.iconst 1, 1) := by decide +kernel
theorem dX9_let_13 : decode cX9_let 13 = .ok (.invokevirtual 80, 3) := by decide +kernel
theorem dX9_let_16 : decode cX9_let 16 = .ok (.ireturn, 1) := by decide +kernel
theorem dX9_let_17 : decode cX9_let 17 = .ok (.aload_n 0, 1) := by decide +kernel
theorem dX9_let_18 : decode cX9_let 18 = .ok (.getfield 29, 3) := by decide +kernel
theorem dX9_let_21 : decode cX9_let 21 = .ok (.iload_n 1, 1) := by decide +kernel
theorem dX9_let_22 : decode cX9_let 22 = .ok (.invokevirtual 123, 3) := by decide +kernel
theorem dX9_let_25 : decode cX9_let 25 = .ok (.astore 4, 2) := by decide +kernel
theorem dX9_let_27 : decode cX9_let 27 = .ok (.aload 4, 2) := by decide +kernel
theorem dX9_let_29 : decode cX9_let 29 = .ok (.ifnonnull 9, 3) := by decide +kernel
theorem dX9_let_32 : decode cX9_let 32 = .ok (.aload_n 0, 1) := by decide +kernel
theorem dX9_let_33 : decode cX9_let 33 = .ok (.iconst 2, 1) := by decide +kernel
theorem dX9_let_34 : decode cX9_let 34 = .ok (.invokevirtual 80, 3) := by decide +kernel
theorem dX9_let_37 : decode cX9_let 37 = .ok (.ireturn, 1) := by decide +kernel
theorem dX9_cut_0 : decode cX9_cut 0 = .ok (.iload_n 2, 1) := by decide +kernel
theorem dX9_cut_1 : decode cX9_cut 1 = .ok (.ifCond .lt 8, 3) := by decide +kernel
theorem dX9_cut_4 : decode cX9_cut 4 = .ok (.iload_n 3, 1) := by decide +kernel
theorem dX9_cut_5 : decode cX9_cut 5 = .ok (.iconst 1, 1) := by decide +kernel
theorem dX9_cut_6 : decode cX9_cut 6 = .ok (.if_icmp .ge 9, 3) := by decide +kernel
theorem dX9_cut_9 : decode cX9_cut 9 = .ok (.aload_n 0, 1) := by decide +kernel
theorem dX9_cut_10 : decode cX9_cut 10 = .ok (.iconst 1, 1) := by decide +kernel
theorem dX9_cut_11 : decode cX9_cut 11 = .ok (.invokevirtual 80, 3) := by decide +kernel
theorem dX9_cut_14 : decode cX9_cut 14 = .ok (.ireturn, 1) := by decide +kernel
theorem dX9_cut_15 : decode cX9_cut 15 = .ok (.aload_n 0, 1) := by decide +kernel
theorem dX9_cut_16 : decode cX9_cut 16 = .ok (.getfield 29, 3) := by decide +kernel
theorem dX9_cut_19 : decode cX9_cut 19 = .ok (.iload_n 1, 1) := by decide +kernel
theorem dX9_cut_20 : decode cX9_cut 20 = .ok (.invokevirtual 123, 3) := by decide +kernel
theorem dX9_cut_23 : decode cX9_cut 23 = .ok (.astore 4, 2) := by decide +kernel
theorem dX9_cut_25 : decode cX9_cut 25 = .ok (.aload 4, 2) := by decide +kernel
theorem dX9_cut_27 : decode cX9_cut 27 = .ok (.ifnonnull 9, 3) := by decide +kernel
theorem dX9_cut_30 : decode cX9_cut 30 = .ok (.aload_n 0, 1) := by decide +kernel
theorem dX9_cut_31 : decode cX9_cut 31 = .ok (.iconst 2, 1) := by decide +kernel
theorem dX9_cut_32 : decode cX9_cut 32 = .ok (.invokevirtual 80, 3) := by decide +kernel
theorem dX9_cut_35 : decode cX9_cut 35 = .ok (.ireturn, 1) := by decide +kernel
theorem dX9_copy_0 : decode cX9_copy 0 = .ok (.iload_n 2, 1) := by decide +kernel
theorem dX9_copy_1 : decode cX9_copy 1 = .ok (.ifCond .lt 8, 3) := by decide +kernel
theorem dX9_copy_4 : decode cX9_copy 4 = .ok (.iload_n 3, 1) := by decide +kernel
theorem dX9_copy_5 : decode cX9_copy 5 = .ok (.iconst 1, 1) := by decide +kernel
theorem dX9_copy_6 : decode cX9_copy 6 = .ok (.if_icmp .ge 9, 3) := by decide +kernel
theorem dX9_copy_9 : decode cX9_copy 9 = .ok (.aload_n 0, 1) := by decide +kernel
theorem dX9_copy_10 : decode cX9_copy 10 = .ok (.iconst 1, 1) := by decide +kernel
theorem dX9_copy_11 : decode cX9_copy 11 = .ok (.invokevirtual 80, 3) := by decide +kernel
theorem dX9_copy_14 : decode cX9_copy 14 = .ok (.ireturn, 1) := by decide +kernel
theorem dX9_copy_15 : decode cX9_copy 15 = .ok (.aload_n 0, 1) := by decide +kernel
theorem dX9_copy_16 : decode cX9_copy 16 = .ok (.getfield 29, 3) := by decide +kernel
theorem dX9_copy_19 : decode cX9_copy 19 = .ok (.iload_n 1, 1) := by decide +kernel
theorem dX9_copy_20 : decode cX9_copy 20 = .ok (.invokevirtual 123, 3) := by decide +kernel
theorem dX9_copy_23 : decode cX9_copy 23 = .ok (.astore 4, 2) := by decide +kernel
theorem dX9_copy_25 : decode cX9_copy 25 = .ok (.aload 4, 2) := by decide +kernel
theorem dX9_copy_27 : decode cX9_copy 27 = .ok (.ifnonnull 9, 3) := by decide +kernel
theorem dX9_copy_30 : decode cX9_copy 30 = .ok (.aload_n 0, 1) := by decide +kernel
theorem dX9_copy_31 : decode cX9_copy 31 = .ok (.iconst 2, 1) := by decide +kernel
theorem dX9_copy_32 : decode cX9_copy 32 = .ok (.invokevirtual 80, 3) := by decide +kernel
theorem dX9_copy_35 : decode cX9_copy 35 = .ok (.ireturn, 1) := by decide +kernel
theorem dX9_drop_0 : decode cX9_drop 0 = .ok (.aload_n 0, 1) := by decide +kernel
theorem dX9_drop_1 : decode cX9_drop 1 = .ok (.getfield 29, 3) := by decide +kernel
theorem dX9_drop_4 : decode cX9_drop 4 = .ok (.iload_n 1, 1) := by decide +kernel
theorem dX9_drop_5 : decode cX9_drop 5 = .ok (.invokevirtual 123, 3) := by decide +kernel
theorem dX9_drop_8 : decode cX9_drop 8 = .ok (.ifnonnull 9, 3) := by decide +kernel
theorem dX9_drop_11 : decode cX9_drop 11 = .ok (.aload_n 0, 1) := by decide +kernel
theorem dX9_drop_12 : decode cX9_drop 12 = .ok (.iconst 2, 1) := by decide +kernel
theorem dX9_drop_13 : decode cX9_drop 13 = .ok (.invokevirtual 80, 3) := by decide +kernel
theorem dX9_drop_16 : decode cX9_drop 16 = .ok (.ireturn, 1) := by decide +kernel
theorem dX9_forget_0 : decode cX9_forget 0 = .ok (.aload_n 0, 1) := by decide +kernel
theorem dX9_forget_1 : decode cX9_forget 1 = .ok (.getfield 29, 3) := by decide +kernel
theorem dX9_forget_4 : decode cX9_forget 4 = .ok (.iload_n 1, 1) := by decide +kernel
theorem dX9_forget_5 : decode cX9_forget 5 = .ok (.invokevirtual 140, 3) := by decide +kernel
theorem dX9_forget_8 : decode cX9_forget 8 = .ok (.ifnonnull 9, 3) := by decide +kernel
theorem dX9_forget_11 : decode cX9_forget 11 = .ok (.aload_n 0, 1) := by decide +kernel
theorem dX9_forget_12 : decode cX9_forget 12 = .ok (.iconst 2, 1) := by decide +kernel
theorem dX9_forget_13 : decode cX9_forget 13 = .ok (.invokevirtual 80, 3) := by decide +kernel
theorem dX9_forget_16 : decode cX9_forget 16 = .ok (.ireturn, 1) := by decide +kernel
theorem dX9_undo_0 : decode cX9_undo 0 = .ok (.aload_n 0, 1) := by decide +kernel
theorem dX9_undo_1 : decode cX9_undo 1 = .ok (.getfield 29, 3) := by decide +kernel
theorem dX9_undo_4 : decode cX9_undo 4 = .ok (.getfield 278, 3) := by decide +kernel
theorem dX9_undo_7 : decode cX9_undo 7 = .ok (.astore_n 1, 1) := by decide +kernel
theorem dX9_undo_8 : decode cX9_undo 8 = .ok (.aload_n 0, 1) := by decide +kernel
theorem dX9_undo_9 : decode cX9_undo 9 = .ok (.getfield 117, 3) := by decide +kernel
theorem dX9_undo_12 : decode cX9_undo 12 = .ok (.ifCond .le 7, 3) := by decide +kernel
theorem dX9_undo_19 : decode cX9_undo 19 = .ok (.aload_n 0, 1) := by decide +kernel
theorem dX9_undo_20 : decode cX9_undo 20 = .ok (.iconst 5, 1) := by decide +kernel
theorem dX9_undo_21 : decode cX9_undo 21 = .ok (.invokevirtual 80, 3) := by decide +kernel
theorem dX9_undo_24 : decode cX9_undo 24 = .ok (.ireturn, 1) := by decide +kernel
theorem dX9_mark_0 : decode cX9_mark 0 = .ok (.aload_n 0, 1) := by decide +kernel
theorem dX9_mark_1 : decode cX9_mark 1 = .ok (.getfield 120, 3) := by decide +kernel
theorem dX9_mark_4 : decode cX9_mark 4 = .ok (.iconst 3, 1) := by decide +kernel
theorem dX9_mark_5 : decode cX9_mark 5 = .ok (.if_icmp .lt 9, 3) := by decide +kernel
theorem dX9_mark_14 : decode cX9_mark 14 = .ok (.aload_n 0, 1) := by decide +kernel
theorem dX9_mark_15 : decode cX9_mark 15 = .ok (.getfield 33, 3) := by decide +kernel
theorem dX9_mark_18 : decode cX9_mark 18 = .ok (.aload_n 0, 1) := by decide +kernel
theorem dX9_mark_19 : decode cX9_mark 19 = .ok (.getfield 120, 3) := by decide +kernel
theorem dX9_mark_22 : decode cX9_mark 22 = .ok (.aload_n 0, 1) := by decide +kernel
theorem dX9_mark_23 : decode cX9_mark 23 = .ok (.getfield 29, 3) := by decide +kernel
theorem dX9_mark_26 : decode cX9_mark 26 = .ok (.aastore, 1) := by decide +kernel
theorem dX9_mark_27 : decode cX9_mark 27 = .ok (.aload_n 0, 1) := by decide +kernel
theorem dX9_mark_28 : decode cX9_mark 28 = .ok (.getfield 37, 3) := by decide +kernel
theorem dX9_mark_31 : decode cX9_mark 31 = .ok (.aload_n 0, 1) := by decide +kernel
theorem dX9_mark_32 : decode cX9_mark 32 = .ok (.getfield 120, 3) := by decide +kernel
theorem dX9_mark_35 : decode cX9_mark 35 = .ok (.aload_n 0, 1) := by decide +kernel
theorem dX9_mark_36 : decode cX9_mark 36 = .ok (.getfield 117, 3) := by decide +kernel
theorem dX9_mark_39 : decode cX9_mark 39 = .ok (.iastore, 1) := by decide +kernel
theorem dX9_mark_40 : decode cX9_mark 40 = .ok (.aload_n 0, 1) := by decide +kernel
theorem dX9_mark_41 : decode cX9_mark 41 = .ok (.dup, 1) := by decide +kernel
theorem dX9_mark_42 : decode cX9_mark 42 = .ok (.getfield 120, 3) := by decide +kernel
theorem dX9_mark_45 : decode cX9_mark 45 = .ok (.iconst 1, 1) := by decide +kernel
theorem dX9_mark_46 : decode cX9_mark 46 = .ok (.iadd, 1) := by decide +kernel
theorem dX9_mark_47 : decode cX9_mark 47 = .ok (.putfield 120, 3) := by decide +kernel
theorem dX9_mark_50 : decode cX9_mark 50 = .ok (.aload_n 0, 1) := by decide +kernel
theorem dX9_mark_51 : decode cX9_mark 51 = .ok (.aload_n 0, 1) := by decide +kernel
theorem dX9_mark_52 : decode cX9_mark 52 = .ok (.getfield 120, 3) := by decide +kernel
theorem dX9_mark_55 : decode cX9_mark 55 = .ok (.invokevirtual 100, 3) := by decide +kernel
theorem dX9_mark_58 : decode cX9_mark 58 = .ok (.ireturn, 1) := by decide +kernel
theorem dX9_back_0 : decode cX9_back 0 = .ok (.aload_n 0, 1) := by decide +kernel
theorem dX9_back_1 : decode cX9_back 1 = .ok (.getfield 120, 3) := by decide +kernel
theorem dX9_back_4 : decode cX9_back 4 = .ok (.ifCond .le 11, 3) := by decide +kernel
theorem dX9_back_15 : decode cX9_back 15 = .ok (.aload_n 0, 1) := by decide +kernel
theorem dX9_back_16 : decode cX9_back 16 = .ok (.iconst 5, 1) := by decide +kernel
theorem dX9_back_17 : decode cX9_back 17 = .ok (.invokevirtual 80, 3) := by decide +kernel
theorem dX9_back_20 : decode cX9_back 20 = .ok (.ireturn, 1) := by decide +kernel
theorem dX9_would_0 : decode cX9_would 0 = .ok (.iload_n 3, 1) := by decide +kernel
theorem dX9_would_1 : decode cX9_would 1 = .ok (.invokestatic 239, 3) := by decide +kernel
theorem dX9_would_4 : decode cX9_would 4 = .ok (.ifCond .eq 7, 3) := by decide +kernel
theorem dX9_would_7 : decode cX9_would 7 = .ok (.iload_n 2, 1) := by decide +kernel
theorem dX9_would_8 : decode cX9_would 8 = .ok (.ifCond .ge 9, 3) := by decide +kernel
theorem dX9_would_11 : decode cX9_would 11 = .ok (.aload_n 0, 1) := by decide +kernel
theorem dX9_would_12 : decode cX9_would 12 = .ok (.iconst 1, 1) := by decide +kernel
theorem dX9_would_13 : decode cX9_would 13 = .ok (.invokevirtual 80, 3) := by decide +kernel
theorem dX9_would_16 : decode cX9_would 16 = .ok (.ireturn, 1) := by decide +kernel
theorem dX9_would_17 : decode cX9_would 17 = .ok (.aload_n 0, 1) := by decide +kernel
theorem dX9_would_18 : decode cX9_would 18 = .ok (.getfield 29, 3) := by decide +kernel
theorem dX9_would_21 : decode cX9_would 21 = .ok (.iload_n 1, 1) := by decide +kernel
theorem dX9_would_22 : decode cX9_would 22 = .ok (.invokevirtual 123, 3) := by decide +kernel
theorem dX9_would_25 : decode cX9_would 25 = .ok (.astore 4, 2) := by decide +kernel
theorem dX9_would_27 : decode cX9_would 27 = .ok (.aload 4, 2) := by decide +kernel
theorem dX9_would_29 : decode cX9_would 29 = .ok (.ifnonnull 9, 3) := by decide +kernel
theorem dX9_would_32 : decode cX9_would 32 = .ok (.aload_n 0, 1) := by decide +kernel
theorem dX9_would_33 : decode cX9_would 33 = .ok (.iconst 2, 1) := by decide +kernel
theorem dX9_would_34 : decode cX9_would 34 = .ok (.invokevirtual 80, 3) := by decide +kernel
theorem dX9_would_37 : decode cX9_would 37 = .ok (.ireturn, 1) := by decide +kernel
theorem dX9_best_0 : decode cX9_best 0 = .ok (.iload_n 2, 1) := by decide +kernel
theorem dX9_best_1 : decode cX9_best 1 = .ok (.ifCond .ge 9, 3) := by decide +kernel
theorem dX9_best_4 : decode cX9_best 4 = .ok (.aload_n 0, 1) := by decide +kernel
theorem dX9_best_5 : decode cX9_best 5 = .ok (.iconst 1, 1) := by decide +kernel
theorem dX9_best_6 : decode cX9_best 6 = .ok (.invokevirtual 80, 3) := by decide +kernel
theorem dX9_best_9 : decode cX9_best 9 = .ok (.ireturn, 1) := by decide +kernel
theorem dX9_best_10 : decode cX9_best 10 = .ok (.aload_n 0, 1) := by decide +kernel
theorem dX9_best_11 : decode cX9_best 11 = .ok (.getfield 29, 3) := by decide +kernel
theorem dX9_best_14 : decode cX9_best 14 = .ok (.iload_n 1, 1) := by decide +kernel
theorem dX9_best_15 : decode cX9_best 15 = .ok (.invokevirtual 123, 3) := by decide +kernel
theorem dX9_best_18 : decode cX9_best 18 = .ok (.astore_n 3, 1) := by decide +kernel
theorem dX9_best_19 : decode cX9_best 19 = .ok (.aload_n 3, 1) := by decide +kernel
theorem dX9_best_20 : decode cX9_best 20 = .ok (.ifnonnull 9, 3) := by decide +kernel
theorem dX9_best_23 : decode cX9_best 23 = .ok (.aload_n 0, 1) := by decide +kernel
theorem dX9_best_24 : decode cX9_best 24 = .ok (.iconst 2, 1) := by decide +kernel
theorem dX9_best_25 : decode cX9_best 25 = .ok (.invokevirtual 80, 3) := by decide +kernel
theorem dX9_best_28 : decode cX9_best 28 = .ok (.ireturn, 1) := by decide +kernel
theorem dX9_answer_0 : decode cX9_answer 0 = .ok (.aload_n 0, 1) := by decide +kernel
theorem dX9_answer_1 : decode cX9_answer 1 = .ok (.iconst 0, 1) := by decide +kernel
theorem dX9_answer_2 : decode cX9_answer 2 = .ok (.putfield 70, 3) := by decide +kernel
theorem dX9_answer_5 : decode cX9_answer 5 = .ok (.iload_n 1, 1) := by decide +kernel
theorem dX9_answer_6 : decode cX9_answer 6 = .ok (.ireturn, 1) := by decide +kernel
theorem dX9_refuse_0 : decode cX9_refuse 0 = .ok (.aload_n 0, 1) := by decide +kernel
theorem dX9_refuse_1 : decode cX9_refuse 1 = .ok (.iload_n 1, 1) := by decide +kernel
theorem dX9_refuse_2 : decode cX9_refuse 2 = .ok (.putfield 70, 3) := by decide +kernel
theorem dX9_refuse_5 : decode cX9_refuse 5 = .ok (.iconst (-1), 1) := by decide +kernel
theorem dX9_refuse_6 : decode cX9_refuse 6 = .ok (.ireturn, 1) := by decide +kernel
theorem dX9_isLetter_0 : decode cX9_isLetter 0 = .ok (.iload_n 0, 1) := by decide +kernel
theorem dX9_isLetter_1 : decode cX9_isLetter 1 = .ok (.ifCond .lt 13, 3) := by decide +kernel
theorem dX9_isLetter_4 : decode cX9_isLetter 4 = .ok (.iload_n 0, 1) := by decide +kernel
theorem dX9_isLetter_5 : decode cX9_isLetter 5 = .ok (.bipush 26, 2) := by decide +kernel
theorem dX9_isLetter_7 : decode cX9_isLetter 7 = .ok (.if_icmp .ge 7, 3) := by decide +kernel
theorem dX9_isLetter_10 : decode cX9_isLetter 10 = .ok (.iconst 1, 1) := by decide +kernel
theorem dX9_isLetter_11 : decode cX9_isLetter 11 = .ok (.goto 4, 3) := by decide +kernel
theorem dX9_isLetter_14 : decode cX9_isLetter 14 = .ok (.iconst 0, 1) := by decide +kernel
theorem dX9_isLetter_15 : decode cX9_isLetter 15 = .ok (.ireturn, 1) := by decide +kernel
theorem dX9_isTriple_0 : decode cX9_isTriple 0 = .ok (.iload_n 0, 1) := by decide +kernel
theorem dX9_isTriple_1 : decode cX9_isTriple 1 = .ok (.ifCond .lt 14, 3) := by decide +kernel
theorem dX9_isTriple_4 : decode cX9_isTriple 4 = .ok (.iload_n 0, 1) := by decide +kernel
theorem dX9_isTriple_5 : decode cX9_isTriple 5 = .ok (.sipush 17576, 3) := by decide +kernel
theorem dX9_isTriple_8 : decode cX9_isTriple 8 = .ok (.if_icmp .ge 7, 3) := by decide +kernel
theorem dX9_isTriple_11 : decode cX9_isTriple 11 = .ok (.iconst 1, 1) := by decide +kernel
theorem dX9_isTriple_12 : decode cX9_isTriple 12 = .ok (.goto 4, 3) := by decide +kernel
theorem dX9_isTriple_15 : decode cX9_isTriple 15 = .ok (.iconst 0, 1) := by decide +kernel
theorem dX9_isTriple_16 : decode cX9_isTriple 16 = .ok (.ireturn, 1) := by decide +kernel
theorem dX9_putBytes_0 : decode cX9_putBytes 0 = .ok (.bipush 24, 2) := by decide +kernel
theorem dX9_putBytes_2 : decode cX9_putBytes 2 = .ok (.istore_n 2, 1) := by decide +kernel
theorem dX9_putBytes_3 : decode cX9_putBytes 3 = .ok (.iload_n 2, 1) := by decide +kernel
theorem dX9_putBytes_4 : decode cX9_putBytes 4 = .ok (.ifCond .lt 45, 3) := by decide +kernel
theorem dX9_putBytes_7 : decode cX9_putBytes 7 = .ok (.aload_n 0, 1) := by decide +kernel
theorem dX9_putBytes_8 : decode cX9_putBytes 8 = .ok (.getfield 73, 3) := by decide +kernel
theorem dX9_putBytes_11 : decode cX9_putBytes 11 = .ok (.sipush 900, 3) := by decide +kernel
theorem dX9_putBytes_14 : decode cX9_putBytes 14 = .ok (.if_icmp .ge 29, 3) := by decide +kernel
theorem dX9_putBytes_17 : decode cX9_putBytes 17 = .ok (.aload_n 0, 1) := by decide +kernel
theorem dX9_putBytes_18 : decode cX9_putBytes 18 = .ok (.getfield 9, 3) := by decide +kernel
theorem dX9_putBytes_21 : decode cX9_putBytes 21 = .ok (.aload_n 0, 1) := by decide +kernel
theorem dX9_putBytes_22 : decode cX9_putBytes 22 = .ok (.getfield 73, 3) := by decide +kernel
theorem dX9_putBytes_25 : decode cX9_putBytes 25 = .ok (.iload_n 1, 1) := by decide +kernel
theorem dX9_putBytes_26 : decode cX9_putBytes 26 = .ok (.iload_n 2, 1) := by decide +kernel
theorem dX9_putBytes_27 : decode cX9_putBytes 27 = .ok (.iushr, 1) := by decide +kernel
theorem dX9_putBytes_28 : decode cX9_putBytes 28 = .ok (.sipush 255, 3) := by decide +kernel
theorem dX9_putBytes_31 : decode cX9_putBytes 31 = .ok (.iand, 1) := by decide +kernel
theorem dX9_putBytes_32 : decode cX9_putBytes 32 = .ok (.iastore, 1) := by decide +kernel
theorem dX9_putBytes_33 : decode cX9_putBytes 33 = .ok (.aload_n 0, 1) := by decide +kernel
theorem dX9_putBytes_34 : decode cX9_putBytes 34 = .ok (.dup, 1) := by decide +kernel
theorem dX9_putBytes_35 : decode cX9_putBytes 35 = .ok (.getfield 73, 3) := by decide +kernel
theorem dX9_putBytes_38 : decode cX9_putBytes 38 = .ok (.iconst 1, 1) := by decide +kernel
theorem dX9_putBytes_39 : decode cX9_putBytes 39 = .ok (.iadd, 1) := by decide +kernel
theorem dX9_putBytes_40 : decode cX9_putBytes 40 = .ok (.putfield 73, 3) := by decide +kernel
theorem dX9_putBytes_43 : decode cX9_putBytes 43 = .ok (.iinc 2 (-8), 3) := by decide +kernel
theorem dX9_putBytes_46 : decode cX9_putBytes 46 = .ok (.goto (-43), 3) := by decide +kernel
theorem dX9_putBytes_49 : decode cX9_putBytes 49 = .ok (.return_, 1) := by decide +kernel
theorem dJ6_bitCount_0f7a4_0 : decode cJ6_bitCount_0f7a4 0 = .ok (.iload_n 0, 1) := by decide +kernel
theorem dJ6_bitCount_0f7a4_1 : decode cJ6_bitCount_0f7a4 1 = .ok (.iload_n 0, 1) := by decide +kernel
theorem dJ6_bitCount_0f7a4_2 : decode cJ6_bitCount_0f7a4 2 = .ok (.iconst 1, 1) := by decide +kernel
theorem dJ6_bitCount_0f7a4_3 : decode cJ6_bitCount_0f7a4 3 = .ok (.iushr, 1) := by decide +kernel
theorem dJ6_bitCount_0f7a4_4 : decode cJ6_bitCount_0f7a4 4 = .ok (.ldc_w 265, 3) := by decide +kernel
theorem dJ6_bitCount_0f7a4_7 : decode cJ6_bitCount_0f7a4 7 = .ok (.iand, 1) := by decide +kernel
theorem dJ6_bitCount_0f7a4_8 : decode cJ6_bitCount_0f7a4 8 = .ok (.isub, 1) := by decide +kernel
theorem dJ6_bitCount_0f7a4_9 : decode cJ6_bitCount_0f7a4 9 = .ok (.istore_n 0, 1) := by decide +kernel
theorem dJ6_bitCount_0f7a4_10 : decode cJ6_bitCount_0f7a4 10 = .ok (.iload_n 0, 1) := by decide +kernel
theorem dJ6_bitCount_0f7a4_11 : decode cJ6_bitCount_0f7a4 11 = .ok (.ldc_w 266, 3) := by decide +kernel
theorem dJ6_bitCount_0f7a4_14 : decode cJ6_bitCount_0f7a4 14 = .ok (.iand, 1) := by decide +kernel
theorem dJ6_bitCount_0f7a4_15 : decode cJ6_bitCount_0f7a4 15 = .ok (.iload_n 0, 1) := by decide +kernel
theorem dJ6_bitCount_0f7a4_16 : decode cJ6_bitCount_0f7a4 16 = .ok (.iconst 2, 1) := by decide +kernel
theorem dJ6_bitCount_0f7a4_17 : decode cJ6_bitCount_0f7a4 17 = .ok (.iushr, 1) := by decide +kernel
theorem dJ6_bitCount_0f7a4_18 : decode cJ6_bitCount_0f7a4 18 = .ok (.ldc_w 266, 3) := by decide +kernel
theorem dJ6_bitCount_0f7a4_21 : decode cJ6_bitCount_0f7a4 21 = .ok (.iand, 1) := by decide +kernel
theorem dJ6_bitCount_0f7a4_22 : decode cJ6_bitCount_0f7a4 22 = .ok (.iadd, 1) := by decide +kernel
theorem dJ6_bitCount_0f7a4_23 : decode cJ6_bitCount_0f7a4 23 = .ok (.istore_n 0, 1) := by decide +kernel
theorem dJ6_bitCount_0f7a4_24 : decode cJ6_bitCount_0f7a4 24 = .ok (.iload_n 0, 1) := by decide +kernel
theorem dJ6_bitCount_0f7a4_25 : decode cJ6_bitCount_0f7a4 25 = .ok (.iload_n 0, 1) := by decide +kernel
theorem dJ6_bitCount_0f7a4_26 : decode cJ6_bitCount_0f7a4 26 = .ok (.iconst 4, 1) := by decide +kernel
theorem dJ6_bitCount_0f7a4_27 : decode cJ6_bitCount_0f7a4 27 = .ok (.iushr, 1) := by decide +kernel
theorem dJ6_bitCount_0f7a4_28 : decode cJ6_bitCount_0f7a4 28 = .ok (.iadd, 1) := by decide +kernel
theorem dJ6_bitCount_0f7a4_29 : decode cJ6_bitCount_0f7a4 29 = .ok (.ldc_w 267, 3) := by decide +kernel
theorem dJ6_bitCount_0f7a4_32 : decode cJ6_bitCount_0f7a4 32 = .ok (.iand, 1) := by decide +kernel
theorem dJ6_bitCount_0f7a4_33 : decode cJ6_bitCount_0f7a4 33 = .ok (.istore_n 0, 1) := by decide +kernel
theorem dJ6_bitCount_0f7a4_34 : decode cJ6_bitCount_0f7a4 34 = .ok (.iload_n 0, 1) := by decide +kernel
theorem dJ6_bitCount_0f7a4_35 : decode cJ6_bitCount_0f7a4 35 = .ok (.iload_n 0, 1) := by decide +kernel
theorem dJ6_bitCount_0f7a4_36 : decode cJ6_bitCount_0f7a4 36 = .ok (.bipush 8, 2) := by decide +kernel
theorem dJ6_bitCount_0f7a4_38 : decode cJ6_bitCount_0f7a4 38 = .ok (.iushr, 1) := by decide +kernel
theorem dJ6_bitCount_0f7a4_39 : decode cJ6_bitCount_0f7a4 39 = .ok (.iadd, 1) := by decide +kernel
theorem dJ6_bitCount_0f7a4_40 : decode cJ6_bitCount_0f7a4 40 = .ok (.istore_n 0, 1) := by decide +kernel
theorem dJ6_bitCount_0f7a4_41 : decode cJ6_bitCount_0f7a4 41 = .ok (.iload_n 0, 1) := by decide +kernel
theorem dJ6_bitCount_0f7a4_42 : decode cJ6_bitCount_0f7a4 42 = .ok (.iload_n 0, 1) := by decide +kernel
theorem dJ6_bitCount_0f7a4_43 : decode cJ6_bitCount_0f7a4 43 = .ok (.bipush 16, 2) := by decide +kernel
theorem dJ6_bitCount_0f7a4_45 : decode cJ6_bitCount_0f7a4 45 = .ok (.iushr, 1) := by decide +kernel
theorem dJ6_bitCount_0f7a4_46 : decode cJ6_bitCount_0f7a4 46 = .ok (.iadd, 1) := by decide +kernel
theorem dJ6_bitCount_0f7a4_47 : decode cJ6_bitCount_0f7a4 47 = .ok (.istore_n 0, 1) := by decide +kernel
theorem dJ6_bitCount_0f7a4_48 : decode cJ6_bitCount_0f7a4 48 = .ok (.iload_n 0, 1) := by decide +kernel
theorem dJ6_bitCount_0f7a4_49 : decode cJ6_bitCount_0f7a4 49 = .ok (.bipush 63, 2) := by decide +kernel
theorem dJ6_bitCount_0f7a4_51 : decode cJ6_bitCount_0f7a4 51 = .ok (.iand, 1) := by decide +kernel
theorem dJ6_bitCount_0f7a4_52 : decode cJ6_bitCount_0f7a4 52 = .ok (.ireturn, 1) := by decide +kernel
