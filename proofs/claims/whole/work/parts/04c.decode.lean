theorem dX9_flaw_16 : decode cX9_flaw 16 = .ok (.getfield 91, 3) := by decide +kernel
theorem dX9_flaw_19 : decode cX9_flaw 19 = .ok (.putfield 117, 3) := by decide +kernel
theorem dX9_flaw_22 : decode cX9_flaw 22 = .ok (.aload_n 0, 1) := by decide +kernel
theorem dX9_flaw_23 : decode cX9_flaw 23 = .ok (.iconst 5, 1) := by decide +kernel
theorem dX9_flaw_24 : decode cX9_flaw 24 = .ok (.putfield 82, 3) := by decide +kernel
theorem dX9_flaw_27 : decode cX9_flaw 27 = .ok (.return_, 1) := by decide +kernel
theorem dX9_isWord_0 : decode cX9_isWord 0 = .ok (.aload_n 0, 1) := by decide +kernel
theorem dX9_isWord_1 : decode cX9_isWord 1 = .ok (.getfield 82, 3) := by decide +kernel
theorem dX9_isWord_4 : decode cX9_isWord 4 = .ok (.iconst 2, 1) := by decide +kernel
theorem dX9_isWord_5 : decode cX9_isWord 5 = .ok (.if_icmp .ne 19, 3) := by decide +kernel
theorem dX9_isWord_8 : decode cX9_isWord 8 = .ok (.aload_n 0, 1) := by decide +kernel
theorem dX9_isWord_9 : decode cX9_isWord 9 = .ok (.getfield 101, 3) := by decide +kernel
theorem dX9_isWord_12 : decode cX9_isWord 12 = .ok (.aload_n 1, 1) := by decide +kernel
theorem dX9_isWord_13 : decode cX9_isWord 13 = .ok (.invokestatic 120, 3) := by decide +kernel
theorem dX9_isWord_16 : decode cX9_isWord 16 = .ok (.lcmp, 1) := by decide +kernel
theorem dX9_isWord_17 : decode cX9_isWord 17 = .ok (.ifCond .ne 7, 3) := by decide +kernel
theorem dX9_isWord_20 : decode cX9_isWord 20 = .ok (.iconst 1, 1) := by decide +kernel
theorem dX9_isWord_21 : decode cX9_isWord 21 = .ok (.goto 4, 3) := by decide +kernel
theorem dX9_isWord_24 : decode cX9_isWord 24 = .ok (.iconst 0, 1) := by decide +kernel
theorem dX9_isWord_25 : decode cX9_isWord 25 = .ok (.ireturn, 1) := by decide +kernel
theorem dX9_eatsSign_0 : decode cX9_eatsSign 0 = .ok (.aload_n 0, 1) := by decide +kernel
theorem dX9_eatsSign_1 : decode cX9_eatsSign 1 = .ok (.getfield 82, 3) := by decide +kernel
theorem dX9_eatsSign_4 : decode cX9_eatsSign 4 = .ok (.iconst 4, 1) := by decide +kernel
theorem dX9_eatsSign_5 : decode cX9_eatsSign 5 = .ok (.if_icmp .ne 15, 3) := by decide +kernel
theorem dX9_eatsSign_8 : decode cX9_eatsSign 8 = .ok (.aload_n 0, 1) := by decide +kernel
theorem dX9_eatsSign_9 : decode cX9_eatsSign 9 = .ok (.getfield 94, 3) := by decide +kernel
theorem dX9_eatsSign_12 : decode cX9_eatsSign 12 = .ok (.iload_n 1, 1) := by decide +kernel
theorem dX9_eatsSign_13 : decode cX9_eatsSign 13 = .ok (.if_icmp .ne 7, 3) := by decide +kernel
theorem dX9_eatsSign_16 : decode cX9_eatsSign 16 = .ok (.iconst 1, 1) := by decide +kernel
theorem dX9_eatsSign_17 : decode cX9_eatsSign 17 = .ok (.goto 4, 3) := by decide +kernel
theorem dX9_eatsSign_20 : decode cX9_eatsSign 20 = .ok (.iconst 0, 1) := by decide +kernel
theorem dX9_eatsSign_21 : decode cX9_eatsSign 21 = .ok (.istore_n 2, 1) := by decide +kernel
theorem dX9_eatsSign_22 : decode cX9_eatsSign 22 = .ok (.iload_n 2, 1) := by decide +kernel
theorem dX9_eatsSign_23 : decode cX9_eatsSign 23 = .ok (.ifCond .eq 7, 3) := by decide +kernel
theorem dX9_eatsSign_26 : decode cX9_eatsSign 26 = .ok (.aload_n 0, 1) := by decide +kernel
theorem dX9_eatsSign_27 : decode cX9_eatsSign 27 = .ok (.invokevirtual 124, 3) := by decide +kernel
theorem dX9_eatsSign_30 : decode cX9_eatsSign 30 = .ok (.iload_n 2, 1) := by decide +kernel
theorem dX9_eatsSign_31 : decode cX9_eatsSign 31 = .ok (.ireturn, 1) := by decide +kernel
theorem dX9_needs_0 : decode cX9_needs 0 = .ok (.aload_n 0, 1) := by decide +kernel
theorem dX9_needs_1 : decode cX9_needs 1 = .ok (.aload_n 1, 1) := by decide +kernel
theorem dX9_needs_2 : decode cX9_needs 2 = .ok (.invokevirtual 127, 3) := by decide +kernel
theorem dX9_needs_5 : decode cX9_needs 5 = .ok (.ifCond .ne 8, 3) := by decide +kernel
theorem dX9_needs_8 : decode cX9_needs 8 = .ok (.aload_n 0, 1) := by decide +kernel
theorem dX9_needs_9 : decode cX9_needs 9 = .ok (.iconst 1, 1) := by decide +kernel
theorem dX9_needs_10 : decode cX9_needs 10 = .ok (.invokevirtual 131, 3) := by decide +kernel
theorem dX9_needs_13 : decode cX9_needs 13 = .ok (.aload_n 0, 1) := by decide +kernel
theorem dX9_needs_14 : decode cX9_needs 14 = .ok (.invokevirtual 124, 3) := by decide +kernel
theorem dX9_needs_17 : decode cX9_needs 17 = .ok (.return_, 1) := by decide +kernel
theorem dX9_needsSign_0 : decode cX9_needsSign 0 = .ok (.aload_n 0, 1) := by decide +kernel
theorem dX9_needsSign_1 : decode cX9_needsSign 1 = .ok (.getfield 82, 3) := by decide +kernel
theorem dX9_needsSign_4 : decode cX9_needsSign 4 = .ok (.iconst 4, 1) := by decide +kernel
theorem dX9_needsSign_5 : decode cX9_needsSign 5 = .ok (.if_icmp .ne 11, 3) := by decide +kernel
theorem dX9_needsSign_8 : decode cX9_needsSign 8 = .ok (.aload_n 0, 1) := by decide +kernel
theorem dX9_needsSign_9 : decode cX9_needsSign 9 = .ok (.getfield 94, 3) := by decide +kernel
theorem dX9_needsSign_12 : decode cX9_needsSign 12 = .ok (.iload_n 1, 1) := by decide +kernel
theorem dX9_needsSign_13 : decode cX9_needsSign 13 = .ok (.if_icmp .eq 8, 3) := by decide +kernel
theorem dX9_needsSign_16 : decode cX9_needsSign 16 = .ok (.aload_n 0, 1) := by decide +kernel
theorem dX9_needsSign_17 : decode cX9_needsSign 17 = .ok (.iconst 1, 1) := by decide +kernel
theorem dX9_needsSign_18 : decode cX9_needsSign 18 = .ok (.invokevirtual 131, 3) := by decide +kernel
theorem dX9_needsSign_21 : decode cX9_needsSign 21 = .ok (.aload_n 0, 1) := by decide +kernel
theorem dX9_needsSign_22 : decode cX9_needsSign 22 = .ok (.invokevirtual 124, 3) := by decide +kernel
theorem dX9_needsSign_25 : decode cX9_needsSign 25 = .ok (.return_, 1) := by decide +kernel
theorem dX9_bounded_0 : decode cX9_bounded 0 = .ok (.aload_n 0, 1) := by decide +kernel
theorem dX9_bounded_1 : decode cX9_bounded 1 = .ok (.getfield 82, 3) := by decide +kernel
theorem dX9_bounded_4 : decode cX9_bounded 4 = .ok (.iconst 3, 1) := by decide +kernel
theorem dX9_bounded_5 : decode cX9_bounded 5 = .ok (.if_icmp .eq 11, 3) := by decide +kernel
theorem dX9_bounded_8 : decode cX9_bounded 8 = .ok (.aload_n 0, 1) := by decide +kernel
theorem dX9_bounded_9 : decode cX9_bounded 9 = .ok (.iconst 1, 1) := by decide +kernel
theorem dX9_bounded_10 : decode cX9_bounded 10 = .ok (.invokevirtual 131, 3) := by decide +kernel
theorem dX9_bounded_13 : decode cX9_bounded 13 = .ok (.goto 20, 3) := by decide +kernel
theorem dX9_bounded_16 : decode cX9_bounded 16 = .ok (.aload_n 0, 1) := by decide +kernel
theorem dX9_bounded_17 : decode cX9_bounded 17 = .ok (.getfield 111, 3) := by decide +kernel
theorem dX9_bounded_20 : decode cX9_bounded 20 = .ok (.iload_n 1, 1) := by decide +kernel
theorem dX9_bounded_21 : decode cX9_bounded 21 = .ok (.iload_n 2, 1) := by decide +kernel
theorem dX9_bounded_22 : decode cX9_bounded 22 = .ok (.invokestatic 135, 3) := by decide +kernel
theorem dX9_bounded_25 : decode cX9_bounded 25 = .ok (.ifCond .ne 8, 3) := by decide +kernel
theorem dX9_bounded_28 : decode cX9_bounded 28 = .ok (.aload_n 0, 1) := by decide +kernel
theorem dX9_bounded_29 : decode cX9_bounded 29 = .ok (.iconst 4, 1) := by decide +kernel
theorem dX9_bounded_30 : decode cX9_bounded 30 = .ok (.invokevirtual 131, 3) := by decide +kernel
theorem dX9_bounded_33 : decode cX9_bounded 33 = .ok (.aload_n 0, 1) := by decide +kernel
theorem dX9_bounded_34 : decode cX9_bounded 34 = .ok (.getfield 82, 3) := by decide +kernel
theorem dX9_bounded_37 : decode cX9_bounded 37 = .ok (.iconst 5, 1) := by decide +kernel
theorem dX9_bounded_38 : decode cX9_bounded 38 = .ok (.if_icmp .ne 7, 3) := by decide +kernel
theorem dX9_bounded_41 : decode cX9_bounded 41 = .ok (.iload_n 1, 1) := by decide +kernel
theorem dX9_bounded_42 : decode cX9_bounded 42 = .ok (.goto 7, 3) := by decide +kernel
theorem dX9_bounded_45 : decode cX9_bounded 45 = .ok (.aload_n 0, 1) := by decide +kernel
theorem dX9_bounded_46 : decode cX9_bounded 46 = .ok (.getfield 111, 3) := by decide +kernel
theorem dX9_bounded_49 : decode cX9_bounded 49 = .ok (.ireturn, 1) := by decide +kernel
theorem dX9_readWhole_0 : decode cX9_readWhole 0 = .ok (.aload_n 0, 1) := by decide +kernel
theorem dX9_readWhole_1 : decode cX9_readWhole 1 = .ok (.iload_n 1, 1) := by decide +kernel
theorem dX9_readWhole_2 : decode cX9_readWhole 2 = .ok (.iload_n 2, 1) := by decide +kernel
theorem dX9_readWhole_3 : decode cX9_readWhole 3 = .ok (.invokevirtual 139, 3) := by decide +kernel
theorem dX9_readWhole_6 : decode cX9_readWhole 6 = .ok (.istore_n 3, 1) := by decide +kernel
theorem dX9_readWhole_7 : decode cX9_readWhole 7 = .ok (.aload_n 0, 1) := by decide +kernel
theorem dX9_readWhole_8 : decode cX9_readWhole 8 = .ok (.invokevirtual 124, 3) := by decide +kernel
theorem dX9_readWhole_11 : decode cX9_readWhole 11 = .ok (.iload_n 3, 1) := by decide +kernel
theorem dX9_readWhole_12 : decode cX9_readWhole 12 = .ok (.ireturn, 1) := by decide +kernel
theorem dX9_readPart_0 : decode cX9_readPart 0 = .ok (.aload_n 0, 1) := by decide +kernel
theorem dX9_readPart_1 : decode cX9_readPart 1 = .ok (.aload_n 1, 1) := by decide +kernel
theorem dX9_readPart_2 : decode cX9_readPart 2 = .ok (.invokevirtual 143, 3) := by decide +kernel
theorem dX9_readPart_5 : decode cX9_readPart 5 = .ok (.aload_n 0, 1) := by decide +kernel
theorem dX9_readPart_6 : decode cX9_readPart 6 = .ok (.iload_n 2, 1) := by decide +kernel
theorem dX9_readPart_7 : decode cX9_readPart 7 = .ok (.iload_n 3, 1) := by decide +kernel
theorem dX9_readPart_8 : decode cX9_readPart 8 = .ok (.invokevirtual 147, 3) := by decide +kernel
theorem dX9_readPart_11 : decode cX9_readPart 11 = .ok (.ireturn, 1) := by decide +kernel
theorem dX9_knownCell_0 : decode cX9_knownCell 0 = .ok (.aload_n 0, 1) := by decide +kernel
theorem dX9_knownCell_1 : decode cX9_knownCell 1 = .ok (.iconst 0, 1) := by decide +kernel
theorem dX9_knownCell_2 : decode cX9_knownCell 2 = .ok (.aload_n 0, 1) := by decide +kernel
theorem dX9_knownCell_3 : decode cX9_knownCell 3 = .ok (.getfield 150, 3) := by decide +kernel
theorem dX9_knownCell_6 : decode cX9_knownCell 6 = .ok (.getfield 154, 3) := by decide +kernel
theorem dX9_knownCell_9 : decode cX9_knownCell 9 = .ok (.iconst 1, 1) := by decide +kernel
theorem dX9_knownCell_10 : decode cX9_knownCell 10 = .ok (.isub, 1) := by decide +kernel
theorem dX9_knownCell_11 : decode cX9_knownCell 11 = .ok (.invokevirtual 147, 3) := by decide +kernel
theorem dX9_knownCell_14 : decode cX9_knownCell 14 = .ok (.istore_n 1, 1) := by decide +kernel
theorem dX9_knownCell_15 : decode cX9_knownCell 15 = .ok (.aload_n 0, 1) := by decide +kernel
theorem dX9_knownCell_16 : decode cX9_knownCell 16 = .ok (.bipush 44, 2) := by decide +kernel
theorem dX9_knownCell_18 : decode cX9_knownCell 18 = .ok (.invokevirtual 158, 3) := by decide +kernel
theorem dX9_knownCell_21 : decode cX9_knownCell 21 = .ok (.aload_n 0, 1) := by decide +kernel
theorem dX9_knownCell_22 : decode cX9_knownCell 22 = .ok (.getfield 150, 3) := by decide +kernel
theorem dX9_knownCell_25 : decode cX9_knownCell 25 = .ok (.getfield 154, 3) := by decide +kernel
theorem dX9_knownCell_28 : decode cX9_knownCell 28 = .ok (.aload_n 0, 1) := by decide +kernel
theorem dX9_knownCell_29 : decode cX9_knownCell 29 = .ok (.iconst 0, 1) := by decide +kernel
theorem dX9_knownCell_30 : decode cX9_knownCell 30 = .ok (.aload_n 0, 1) := by decide +kernel
theorem dX9_knownCell_31 : decode cX9_knownCell 31 = .ok (.getfield 150, 3) := by decide +kernel
theorem dX9_knownCell_34 : decode cX9_knownCell 34 = .ok (.getfield 161, 3) := by decide +kernel
theorem dX9_knownCell_37 : decode cX9_knownCell 37 = .ok (.iconst 1, 1) := by decide +kernel
theorem dX9_knownCell_38 : decode cX9_knownCell 38 = .ok (.isub, 1) := by decide +kernel
theorem dX9_knownCell_39 : decode cX9_knownCell 39 = .ok (.invokevirtual 139, 3) := by decide +kernel
theorem dX9_knownCell_42 : decode cX9_knownCell 42 = .ok (.imul, 1) := by decide +kernel
theorem dX9_knownCell_43 : decode cX9_knownCell 43 = .ok (.iload_n 1, 1) := by decide +kernel
theorem dX9_knownCell_44 : decode cX9_knownCell 44 = .ok (.iadd, 1) := by decide +kernel
theorem dX9_knownCell_45 : decode cX9_knownCell 45 = .ok (.ireturn, 1) := by decide +kernel
theorem dX9_isName_0 : decode cX9_isName 0 = .ok (.aload_n 0, 1) := by decide +kernel
theorem dX9_isName_1 : decode cX9_isName 1 = .ok (.getfield 82, 3) := by decide +kernel
theorem dX9_isName_4 : decode cX9_isName 4 = .ok (.iconst 2, 1) := by decide +kernel
theorem dX9_isName_5 : decode cX9_isName 5 = .ok (.if_icmp .ne 48, 3) := by decide +kernel
theorem dX9_isName_8 : decode cX9_isName 8 = .ok (.aload_n 0, 1) := by decide +kernel
theorem dX9_isName_9 : decode cX9_isName 9 = .ok (.ldc 164, 2) := by decide +kernel
theorem dX9_isName_11 : decode cX9_isName 11 = .ok (.invokevirtual 127, 3) := by decide +kernel
theorem dX9_isName_14 : decode cX9_isName 14 = .ok (.ifCond .ne 39, 3) := by decide +kernel
theorem dX9_isName_17 : decode cX9_isName 17 = .ok (.aload_n 0, 1) := by decide +kernel
theorem dX9_isName_18 : decode cX9_isName 18 = .ok (.ldc 166, 2) := by decide +kernel
theorem dX9_isName_20 : decode cX9_isName 20 = .ok (.invokevirtual 127, 3) := by decide +kernel
theorem dX9_isName_23 : decode cX9_isName 23 = .ok (.ifCond .ne 30, 3) := by decide +kernel
theorem dX9_isName_26 : decode cX9_isName 26 = .ok (.aload_n 0, 1) := by decide +kernel
theorem dX9_isName_27 : decode cX9_isName 27 = .ok (.ldc 168, 2) := by decide +kernel
theorem dX9_isName_29 : decode cX9_isName 29 = .ok (.invokevirtual 127, 3) := by decide +kernel
theorem dX9_isName_32 : decode cX9_isName 32 = .ok (.ifCond .ne 21, 3) := by decide +kernel
theorem dX9_isName_35 : decode cX9_isName 35 = .ok (.aload_n 0, 1) := by decide +kernel
theorem dX9_isName_36 : decode cX9_isName 36 = .ok (.ldc 170, 2) := by decide +kernel
theorem dX9_isName_38 : decode cX9_isName 38 = .ok (.invokevirtual 127, 3) := by decide +kernel
theorem dX9_isName_41 : decode cX9_isName 41 = .ok (.ifCond .ne 12, 3) := by decide +kernel
theorem dX9_isName_44 : decode cX9_isName 44 = .ok (.aload_n 0, 1) := by decide +kernel
theorem dX9_isName_45 : decode cX9_isName 45 = .ok (.ldc 172, 2) := by decide +kernel
theorem dX9_isName_47 : decode cX9_isName 47 = .ok (.invokevirtual 127, 3) := by decide +kernel
theorem dX9_isName_50 : decode cX9_isName 50 = .ok (.ifCond .eq 5, 3) := by decide +kernel
theorem dX9_isName_53 : decode cX9_isName 53 = .ok (.iconst 0, 1) := by decide +kernel
theorem dX9_isName_54 : decode cX9_isName 54 = .ok (.ireturn, 1) := by decide +kernel
theorem dX9_isName_55 : decode cX9_isName 55 = .ok (.aload_n 0, 1) := by decide +kernel
theorem dX9_isName_56 : decode cX9_isName 56 = .ok (.ldc 174, 2) := by decide +kernel
theorem dX9_isName_58 : decode cX9_isName 58 = .ok (.invokevirtual 127, 3) := by decide +kernel
theorem dX9_isName_61 : decode cX9_isName 61 = .ok (.ifCond .ne 43, 3) := by decide +kernel
theorem dX9_isName_64 : decode cX9_isName 64 = .ok (.aload_n 0, 1) := by decide +kernel
theorem dX9_isName_65 : decode cX9_isName 65 = .ok (.ldc 176, 2) := by decide +kernel
theorem dX9_isName_67 : decode cX9_isName 67 = .ok (.invokevirtual 127, 3) := by decide +kernel
theorem dX9_isName_70 : decode cX9_isName 70 = .ok (.ifCond .ne 34, 3) := by decide +kernel
theorem dX9_isName_73 : decode cX9_isName 73 = .ok (.aload_n 0, 1) := by decide +kernel
theorem dX9_isName_74 : decode cX9_isName 74 = .ok (.ldc 178, 2) := by decide +kernel
theorem dX9_isName_76 : decode cX9_isName 76 = .ok (.invokevirtual 127, 3) := by decide +kernel
theorem dX9_isName_79 : decode cX9_isName 79 = .ok (.ifCond .ne 25, 3) := by decide +kernel
theorem dX9_isName_82 : decode cX9_isName 82 = .ok (.aload_n 0, 1) := by decide +kernel
theorem dX9_isName_83 : decode cX9_isName 83 = .ok (.ldc 180, 2) := by decide +kernel
theorem dX9_isName_85 : decode cX9_isName 85 = .ok (.invokevirtual 127, 3) := by decide +kernel
theorem dX9_isName_88 : decode cX9_isName 88 = .ok (.ifCond .ne 16, 3) := by decide +kernel
theorem dX9_isName_91 : decode cX9_isName 91 = .ok (.aload_n 0, 1) := by decide +kernel
theorem dX9_isName_92 : decode cX9_isName 92 = .ok (.ldc 182, 2) := by decide +kernel
theorem dX9_isName_94 : decode cX9_isName 94 = .ok (.invokevirtual 127, 3) := by decide +kernel
theorem dX9_isName_97 : decode cX9_isName 97 = .ok (.ifCond .ne 7, 3) := by decide +kernel
theorem dX9_isName_100 : decode cX9_isName 100 = .ok (.iconst 1, 1) := by decide +kernel
theorem dX9_isName_101 : decode cX9_isName 101 = .ok (.goto 4, 3) := by decide +kernel
theorem dX9_isName_104 : decode cX9_isName 104 = .ok (.iconst 0, 1) := by decide +kernel
theorem dX9_isName_105 : decode cX9_isName 105 = .ok (.ireturn, 1) := by decide +kernel
theorem dX9_begins_0 : decode cX9_begins 0 = .ok (.iload_n 1, 1) := by decide +kernel
theorem dX9_begins_1 : decode cX9_begins 1 = .ok (.ifCond .eq 8, 3) := by decide +kernel
theorem dX9_begins_4 : decode cX9_begins 4 = .ok (.aload_n 0, 1) := by decide +kernel
theorem dX9_begins_5 : decode cX9_begins 5 = .ok (.iconst 3, 1) := by decide +kernel
theorem dX9_begins_6 : decode cX9_begins 6 = .ok (.invokevirtual 131, 3) := by decide +kernel
theorem dX9_begins_9 : decode cX9_begins 9 = .ok (.iload_n 2, 1) := by decide +kernel
theorem dX9_begins_10 : decode cX9_begins 10 = .ok (.ifCond .eq 8, 3) := by decide +kernel
theorem dX9_begins_13 : decode cX9_begins 13 = .ok (.aload_n 0, 1) := by decide +kernel
theorem dX9_begins_14 : decode cX9_begins 14 = .ok (.iconst 5, 1) := by decide +kernel
theorem dX9_begins_15 : decode cX9_begins 15 = .ok (.invokevirtual 131, 3) := by decide +kernel
theorem dX9_begins_18 : decode cX9_begins 18 = .ok (.aload_n 0, 1) := by decide +kernel
theorem dX9_begins_19 : decode cX9_begins 19 = .ok (.getfield 150, 3) := by decide +kernel
theorem dX9_begins_22 : decode cX9_begins 22 = .ok (.getfield 154, 3) := by decide +kernel
theorem dX9_begins_25 : decode cX9_begins 25 = .ok (.ifCond .eq 7, 3) := by decide +kernel
theorem dX9_begins_28 : decode cX9_begins 28 = .ok (.iload_n 3, 1) := by decide +kernel
theorem dX9_begins_29 : decode cX9_begins 29 = .ok (.ifCond .eq 9, 3) := by decide +kernel
theorem dX9_begins_32 : decode cX9_begins 32 = .ok (.aload_n 0, 1) := by decide +kernel
theorem dX9_begins_33 : decode cX9_begins 33 = .ok (.bipush 6, 2) := by decide +kernel
theorem dX9_begins_35 : decode cX9_begins 35 = .ok (.invokevirtual 131, 3) := by decide +kernel
theorem dX9_begins_38 : decode cX9_begins 38 = .ok (.aload_n 0, 1) := by decide +kernel
theorem dX9_begins_39 : decode cX9_begins 39 = .ok (.invokevirtual 124, 3) := by decide +kernel
theorem dX9_begins_42 : decode cX9_begins 42 = .ok (.return_, 1) := by decide +kernel
theorem dX9_readSide_0 : decode cX9_readSide 0 = .ok (.aload_n 0, 1) := by decide +kernel
theorem dX9_readSide_1 : decode cX9_readSide 1 = .ok (.ldc 184, 2) := by decide +kernel
theorem dX9_readSide_3 : decode cX9_readSide 3 = .ok (.invokevirtual 127, 3) := by decide +kernel
theorem dX9_readSide_6 : decode cX9_readSide 6 = .ok (.ifCond .eq 7, 3) := by decide +kernel
theorem dX9_readSide_9 : decode cX9_readSide 9 = .ok (.iconst 0, 1) := by decide +kernel
theorem dX9_readSide_10 : decode cX9_readSide 10 = .ok (.goto 43, 3) := by decide +kernel
theorem dX9_readSide_13 : decode cX9_readSide 13 = .ok (.aload_n 0, 1) := by decide +kernel
theorem dX9_readSide_14 : decode cX9_readSide 14 = .ok (.ldc 186, 2) := by decide +kernel
theorem dX9_readSide_16 : decode cX9_readSide 16 = .ok (.invokevirtual 127, 3) := by decide +kernel
theorem dX9_readSide_19 : decode cX9_readSide 19 = .ok (.ifCond .eq 7, 3) := by decide +kernel
theorem dX9_readSide_22 : decode cX9_readSide 22 = .ok (.iconst 1, 1) := by decide +kernel
theorem dX9_readSide_23 : decode cX9_readSide 23 = .ok (.goto 30, 3) := by decide +kernel
theorem dX9_readSide_26 : decode cX9_readSide 26 = .ok (.aload_n 0, 1) := by decide +kernel
theorem dX9_readSide_27 : decode cX9_readSide 27 = .ok (.ldc 188, 2) := by decide +kernel
theorem dX9_readSide_29 : decode cX9_readSide 29 = .ok (.invokevirtual 127, 3) := by decide +kernel
theorem dX9_readSide_32 : decode cX9_readSide 32 = .ok (.ifCond .eq 7, 3) := by decide +kernel
theorem dX9_readSide_35 : decode cX9_readSide 35 = .ok (.iconst 2, 1) := by decide +kernel
theorem dX9_readSide_36 : decode cX9_readSide 36 = .ok (.goto 17, 3) := by decide +kernel
theorem dX9_readSide_39 : decode cX9_readSide 39 = .ok (.aload_n 0, 1) := by decide +kernel
theorem dX9_readSide_40 : decode cX9_readSide 40 = .ok (.ldc 190, 2) := by decide +kernel
theorem dX9_readSide_42 : decode cX9_readSide 42 = .ok (.invokevirtual 127, 3) := by decide +kernel
theorem dX9_readSide_45 : decode cX9_readSide 45 = .ok (.ifCond .eq 7, 3) := by decide +kernel
theorem dX9_readSide_48 : decode cX9_readSide 48 = .ok (.iconst 3, 1) := by decide +kernel
theorem dX9_readSide_49 : decode cX9_readSide 49 = .ok (.goto 4, 3) := by decide +kernel
theorem dX9_readSide_52 : decode cX9_readSide 52 = .ok (.iconst (-1), 1) := by decide +kernel
theorem dX9_readSide_53 : decode cX9_readSide 53 = .ok (.istore_n 1, 1) := by decide +kernel
theorem dX9_readSide_54 : decode cX9_readSide 54 = .ok (.iload_n 1, 1) := by decide +kernel
theorem dX9_readSide_55 : decode cX9_readSide 55 = .ok (.iconst (-1), 1) := by decide +kernel
theorem dX9_readSide_56 : decode cX9_readSide 56 = .ok (.if_icmp .ne 8, 3) := by decide +kernel
theorem dX9_readSide_59 : decode cX9_readSide 59 = .ok (.aload_n 0, 1) := by decide +kernel
theorem dX9_readSide_60 : decode cX9_readSide 60 = .ok (.iconst 1, 1) := by decide +kernel
theorem dX9_readSide_61 : decode cX9_readSide 61 = .ok (.invokevirtual 131, 3) := by decide +kernel
theorem dX9_readSide_64 : decode cX9_readSide 64 = .ok (.iload_n 1, 1) := by decide +kernel
theorem dX9_readSide_65 : decode cX9_readSide 65 = .ok (.ireturn, 1) := by decide +kernel
theorem dX9_readKind_0 : decode cX9_readKind 0 = .ok (.aload_n 0, 1) := by decide +kernel
theorem dX9_readKind_1 : decode cX9_readKind 1 = .ok (.ldc 192, 2) := by decide +kernel
theorem dX9_readKind_3 : decode cX9_readKind 3 = .ok (.invokevirtual 127, 3) := by decide +kernel
theorem dX9_readKind_6 : decode cX9_readKind 6 = .ok (.ifCond .eq 7, 3) := by decide +kernel
theorem dX9_readKind_9 : decode cX9_readKind 9 = .ok (.iconst 0, 1) := by decide +kernel
theorem dX9_readKind_10 : decode cX9_readKind 10 = .ok (.goto 43, 3) := by decide +kernel
theorem dX9_readKind_13 : decode cX9_readKind 13 = .ok (.aload_n 0, 1) := by decide +kernel
theorem dX9_readKind_14 : decode cX9_readKind 14 = .ok (.ldc 194, 2) := by decide +kernel
theorem dX9_readKind_16 : decode cX9_readKind 16 = .ok (.invokevirtual 127, 3) := by decide +kernel
theorem dX9_readKind_19 : decode cX9_readKind 19 = .ok (.ifCond .eq 7, 3) := by decide +kernel
theorem dX9_readKind_22 : decode cX9_readKind 22 = .ok (.iconst 1, 1) := by decide +kernel
theorem dX9_readKind_23 : decode cX9_readKind 23 = .ok (.goto 30, 3) := by decide +kernel
theorem dX9_readKind_26 : decode cX9_readKind 26 = .ok (.aload_n 0, 1) := by decide +kernel
theorem dX9_readKind_27 : decode cX9_readKind 27 = .ok (.ldc 196, 2) := by decide +kernel
theorem dX9_readKind_29 : decode cX9_readKind 29 = .ok (.invokevirtual 127, 3) := by decide +kernel
theorem dX9_readKind_32 : decode cX9_readKind 32 = .ok (.ifCond .eq 7, 3) := by decide +kernel
theorem dX9_readKind_35 : decode cX9_readKind 35 = .ok (.iconst 2, 1) := by decide +kernel
theorem dX9_readKind_36 : decode cX9_readKind 36 = .ok (.goto 17, 3) := by decide +kernel
theorem dX9_readKind_39 : decode cX9_readKind 39 = .ok (.aload_n 0, 1) := by decide +kernel
theorem dX9_readKind_40 : decode cX9_readKind 40 = .ok (.ldc 198, 2) := by decide +kernel
theorem dX9_readKind_42 : decode cX9_readKind 42 = .ok (.invokevirtual 127, 3) := by decide +kernel
theorem dX9_readKind_45 : decode cX9_readKind 45 = .ok (.ifCond .eq 7, 3) := by decide +kernel
theorem dX9_readKind_48 : decode cX9_readKind 48 = .ok (.iconst 3, 1) := by decide +kernel
theorem dX9_readKind_49 : decode cX9_readKind 49 = .ok (.goto 4, 3) := by decide +kernel
theorem dX9_readKind_52 : decode cX9_readKind 52 = .ok (.iconst (-1), 1) := by decide +kernel
theorem dX9_readKind_53 : decode cX9_readKind 53 = .ok (.istore_n 1, 1) := by decide +kernel
theorem dX9_readKind_54 : decode cX9_readKind 54 = .ok (.iload_n 1, 1) := by decide +kernel
theorem dX9_readKind_55 : decode cX9_readKind 55 = .ok (.iconst (-1), 1) := by decide +kernel
theorem dX9_readKind_56 : decode cX9_readKind 56 = .ok (.if_icmp .ne 8, 3) := by decide +kernel
theorem dX9_readKind_59 : decode cX9_readKind 59 = .ok (.aload_n 0, 1) := by decide +kernel
theorem dX9_readKind_60 : decode cX9_readKind 60 = .ok (.iconst 1, 1) := by decide +kernel
theorem dX9_readKind_61 : decode cX9_readKind 61 = .ok (.invokevirtual 131, 3) := by decide +kernel
theorem dX9_readKind_64 : decode cX9_readKind 64 = .ok (.aload_n 0, 1) := by decide +kernel
theorem dX9_readKind_65 : decode cX9_readKind 65 = .ok (.invokevirtual 124, 3) := by decide +kernel
theorem dX9_readKind_68 : decode cX9_readKind 68 = .ok (.iload_n 1, 1) := by decide +kernel
theorem dX9_readKind_69 : decode cX9_readKind 69 = .ok (.ireturn, 1) := by decide +kernel
theorem dX9_readAll_0 : decode cX9_readAll 0 = .ok (.iconst 1, 1) := by decide +kernel
theorem dX9_readAll_1 : decode cX9_readAll 1 = .ok (.istore_n 1, 1) := by decide +kernel
theorem dX9_readAll_2 : decode cX9_readAll 2 = .ok (.iload_n 1, 1) := by decide +kernel
theorem dX9_readAll_3 : decode cX9_readAll 3 = .ok (.ifCond .eq 17, 3) := by decide +kernel
theorem dX9_readAll_6 : decode cX9_readAll 6 = .ok (.aload_n 0, 1) := by decide +kernel
theorem dX9_readAll_7 : decode cX9_readAll 7 = .ok (.invokevirtual 200, 3) := by decide +kernel
theorem dX9_readAll_10 : decode cX9_readAll 10 = .ok (.aload_n 0, 1) := by decide +kernel
theorem dX9_readAll_11 : decode cX9_readAll 11 = .ok (.bipush 59, 2) := by decide +kernel
theorem dX9_readAll_13 : decode cX9_readAll 13 = .ok (.invokevirtual 203, 3) := by decide +kernel
theorem dX9_readAll_16 : decode cX9_readAll 16 = .ok (.istore_n 1, 1) := by decide +kernel
theorem dX9_readAll_17 : decode cX9_readAll 17 = .ok (.goto (-15), 3) := by decide +kernel
theorem dX9_readAll_20 : decode cX9_readAll 20 = .ok (.aload_n 0, 1) := by decide +kernel
theorem dX9_readAll_21 : decode cX9_readAll 21 = .ok (.getfield 82, 3) := by decide +kernel
theorem dX9_readAll_24 : decode cX9_readAll 24 = .ok (.iconst 1, 1) := by decide +kernel
theorem dX9_readAll_25 : decode cX9_readAll 25 = .ok (.if_icmp .eq 8, 3) := by decide +kernel
theorem dX9_readAll_28 : decode cX9_readAll 28 = .ok (.aload_n 0, 1) := by decide +kernel
theorem dX9_readAll_29 : decode cX9_readAll 29 = .ok (.iconst 1, 1) := by decide +kernel
theorem dX9_readAll_30 : decode cX9_readAll 30 = .ok (.invokevirtual 131, 3) := by decide +kernel
theorem dX9_readAll_33 : decode cX9_readAll 33 = .ok (.aload_n 0, 1) := by decide +kernel
theorem dX9_readAll_34 : decode cX9_readAll 34 = .ok (.getfield 150, 3) := by decide +kernel
theorem dX9_readAll_37 : decode cX9_readAll 37 = .ok (.getfield 206, 3) := by decide +kernel
theorem dX9_readAll_40 : decode cX9_readAll 40 = .ok (.ifCond .eq 26, 3) := by decide +kernel
theorem dX9_readAll_43 : decode cX9_readAll 43 = .ok (.aload_n 0, 1) := by decide +kernel
theorem dX9_readAll_44 : decode cX9_readAll 44 = .ok (.getfield 150, 3) := by decide +kernel
theorem dX9_readAll_47 : decode cX9_readAll 47 = .ok (.getfield 209, 3) := by decide +kernel
theorem dX9_readAll_50 : decode cX9_readAll 50 = .ok (.iconst (-1), 1) := by decide +kernel
theorem dX9_readAll_51 : decode cX9_readAll 51 = .ok (.if_icmp .eq 15, 3) := by decide +kernel
theorem dX9_readAll_54 : decode cX9_readAll 54 = .ok (.aload_n 0, 1) := by decide +kernel
theorem dX9_readAll_55 : decode cX9_readAll 55 = .ok (.getfield 150, 3) := by decide +kernel
theorem dX9_readAll_58 : decode cX9_readAll 58 = .ok (.getfield 212, 3) := by decide +kernel
theorem dX9_readAll_61 : decode cX9_readAll 61 = .ok (.bipush (-2), 2) := by decide +kernel
theorem dX9_readAll_63 : decode cX9_readAll 63 = .ok (.if_icmp .ne 9, 3) := by decide +kernel
theorem dX9_readAll_66 : decode cX9_readAll 66 = .ok (.aload_n 0, 1) := by decide +kernel
theorem dX9_readAll_67 : decode cX9_readAll 67 = .ok (.bipush 6, 2) := by decide +kernel
theorem dX9_readAll_69 : decode cX9_readAll 69 = .ok (.invokevirtual 131, 3) := by decide +kernel
theorem dX9_readAll_72 : decode cX9_readAll 72 = .ok (.return_, 1) := by decide +kernel
theorem dX9_readLine_0 : decode cX9_readLine 0 = .ok (.aload_n 0, 1) := by decide +kernel
theorem dX9_readLine_1 : decode cX9_readLine 1 = .ok (.ldc 164, 2) := by decide +kernel
theorem dX9_readLine_3 : decode cX9_readLine 3 = .ok (.invokevirtual 127, 3) := by decide +kernel
theorem dX9_readLine_6 : decode cX9_readLine 6 = .ok (.ifCond .eq 10, 3) := by decide +kernel
theorem dX9_readLine_9 : decode cX9_readLine 9 = .ok (.aload_n 0, 1) := by decide +kernel
theorem dX9_readLine_10 : decode cX9_readLine 10 = .ok (.invokevirtual 215, 3) := by decide +kernel
theorem dX9_readLine_13 : decode cX9_readLine 13 = .ok (.goto 152, 3) := by decide +kernel
theorem dX9_readLine_16 : decode cX9_readLine 16 = .ok (.aload_n 0, 1) := by decide +kernel
theorem dX9_readLine_17 : decode cX9_readLine 17 = .ok (.ldc 166, 2) := by decide +kernel
theorem dX9_readLine_19 : decode cX9_readLine 19 = .ok (.invokevirtual 127, 3) := by decide +kernel
theorem dX9_readLine_22 : decode cX9_readLine 22 = .ok (.ifCond .eq 10, 3) := by decide +kernel
theorem dX9_readLine_25 : decode cX9_readLine 25 = .ok (.aload_n 0, 1) := by decide +kernel
theorem dX9_readLine_26 : decode cX9_readLine 26 = .ok (.invokevirtual 218, 3) := by decide +kernel
theorem dX9_readLine_29 : decode cX9_readLine 29 = .ok (.goto 136, 3) := by decide +kernel
theorem dX9_readLine_32 : decode cX9_readLine 32 = .ok (.aload_n 0, 1) := by decide +kernel
theorem dX9_readLine_33 : decode cX9_readLine 33 = .ok (.ldc 168, 2) := by decide +kernel
theorem dX9_readLine_35 : decode cX9_readLine 35 = .ok (.invokevirtual 127, 3) := by decide +kernel
theorem dX9_readLine_38 : decode cX9_readLine 38 = .ok (.ifCond .eq 10, 3) := by decide +kernel
theorem dX9_readLine_41 : decode cX9_readLine 41 = .ok (.aload_n 0, 1) := by decide +kernel
theorem dX9_readLine_42 : decode cX9_readLine 42 = .ok (.invokevirtual 221, 3) := by decide +kernel
theorem dX9_readLine_45 : decode cX9_readLine 45 = .ok (.goto 120, 3) := by decide +kernel
theorem dX9_readLine_48 : decode cX9_readLine 48 = .ok (.aload_n 0, 1) := by decide +kernel
theorem dX9_readLine_49 : decode cX9_readLine 49 = .ok (.ldc 170, 2) := by decide +kernel
theorem dX9_readLine_51 : decode cX9_readLine 51 = .ok (.invokevirtual 127, 3) := by decide +kernel
theorem dX9_readLine_54 : decode cX9_readLine 54 = .ok (.ifCond .eq 10, 3) := by decide +kernel
theorem dX9_readLine_57 : decode cX9_readLine 57 = .ok (.aload_n 0, 1) := by decide +kernel
theorem dX9_readLine_58 : decode cX9_readLine 58 = .ok (.invokevirtual 224, 3) := by decide +kernel
theorem dX9_readLine_61 : decode cX9_readLine 61 = .ok (.goto 104, 3) := by decide +kernel
theorem dX9_readLine_64 : decode cX9_readLine 64 = .ok (.aload_n 0, 1) := by decide +kernel
theorem dX9_readLine_65 : decode cX9_readLine 65 = .ok (.ldc 172, 2) := by decide +kernel
theorem dX9_readLine_67 : decode cX9_readLine 67 = .ok (.invokevirtual 127, 3) := by decide +kernel
theorem dX9_readLine_70 : decode cX9_readLine 70 = .ok (.ifCond .eq 10, 3) := by decide +kernel
theorem dX9_readLine_73 : decode cX9_readLine 73 = .ok (.aload_n 0, 1) := by decide +kernel
theorem dX9_readLine_74 : decode cX9_readLine 74 = .ok (.invokevirtual 227, 3) := by decide +kernel
theorem dX9_readLine_77 : decode cX9_readLine 77 = .ok (.goto 88, 3) := by decide +kernel
theorem dX9_readLine_80 : decode cX9_readLine 80 = .ok (.aload_n 0, 1) := by decide +kernel
theorem dX9_readLine_81 : decode cX9_readLine 81 = .ok (.ldc 174, 2) := by decide +kernel
theorem dX9_readLine_83 : decode cX9_readLine 83 = .ok (.invokevirtual 127, 3) := by decide +kernel
theorem dX9_readLine_86 : decode cX9_readLine 86 = .ok (.ifCond .eq 10, 3) := by decide +kernel
theorem dX9_readLine_89 : decode cX9_readLine 89 = .ok (.aload_n 0, 1) := by decide +kernel
theorem dX9_readLine_90 : decode cX9_readLine 90 = .ok (.invokevirtual 230, 3) := by decide +kernel
theorem dX9_readLine_93 : decode cX9_readLine 93 = .ok (.goto 72, 3) := by decide +kernel
theorem dX9_readLine_96 : decode cX9_readLine 96 = .ok (.aload_n 0, 1) := by decide +kernel
theorem dX9_readLine_97 : decode cX9_readLine 97 = .ok (.ldc 176, 2) := by decide +kernel
theorem dX9_readLine_99 : decode cX9_readLine 99 = .ok (.invokevirtual 127, 3) := by decide +kernel
theorem dX9_readLine_102 : decode cX9_readLine 102 = .ok (.ifCond .eq 10, 3) := by decide +kernel
theorem dX9_readLine_105 : decode cX9_readLine 105 = .ok (.aload_n 0, 1) := by decide +kernel
theorem dX9_readLine_106 : decode cX9_readLine 106 = .ok (.invokevirtual 233, 3) := by decide +kernel
theorem dX9_readLine_109 : decode cX9_readLine 109 = .ok (.goto 56, 3) := by decide +kernel
theorem dX9_readLine_112 : decode cX9_readLine 112 = .ok (.aload_n 0, 1) := by decide +kernel
theorem dX9_readLine_113 : decode cX9_readLine 113 = .ok (.ldc 178, 2) := by decide +kernel
theorem dX9_readLine_115 : decode cX9_readLine 115 = .ok (.invokevirtual 127, 3) := by decide +kernel
theorem dX9_readLine_118 : decode cX9_readLine 118 = .ok (.ifCond .eq 10, 3) := by decide +kernel
theorem dX9_readLine_121 : decode cX9_readLine 121 = .ok (.aload_n 0, 1) := by decide +kernel
theorem dX9_readLine_122 : decode cX9_readLine 122 = .ok (.invokevirtual 236, 3) := by decide +kernel
theorem dX9_readLine_125 : decode cX9_readLine 125 = .ok (.goto 40, 3) := by decide +kernel
theorem dX9_readLine_128 : decode cX9_readLine 128 = .ok (.aload_n 0, 1) := by decide +kernel
theorem dX9_readLine_129 : decode cX9_readLine 129 = .ok (.ldc 180, 2) := by decide +kernel
theorem dX9_readLine_131 : decode cX9_readLine 131 = .ok (.invokevirtual 127, 3) := by decide +kernel
theorem dX9_readLine_134 : decode cX9_readLine 134 = .ok (.ifCond .eq 10, 3) := by decide +kernel
theorem dX9_readLine_137 : decode cX9_readLine 137 = .ok (.aload_n 0, 1) := by decide +kernel
theorem dX9_readLine_138 : decode cX9_readLine 138 = .ok (.invokevirtual 239, 3) := by decide +kernel
theorem dX9_readLine_141 : decode cX9_readLine 141 = .ok (.goto 24, 3) := by decide +kernel
theorem dX9_readLine_144 : decode cX9_readLine 144 = .ok (.aload_n 0, 1) := by decide +kernel
theorem dX9_readLine_145 : decode cX9_readLine 145 = .ok (.ldc 182, 2) := by decide +kernel
theorem dX9_readLine_147 : decode cX9_readLine 147 = .ok (.invokevirtual 127, 3) := by decide +kernel
theorem dX9_readLine_150 : decode cX9_readLine 150 = .ok (.ifCond .eq 10, 3) := by decide +kernel
theorem dX9_readLine_153 : decode cX9_readLine 153 = .ok (.aload_n 0, 1) := by decide +kernel
theorem dX9_readLine_154 : decode cX9_readLine 154 = .ok (.invokevirtual 242, 3) := by decide +kernel
theorem dX9_readLine_157 : decode cX9_readLine 157 = .ok (.goto 8, 3) := by decide +kernel
theorem dX9_readLine_160 : decode cX9_readLine 160 = .ok (.aload_n 0, 1) := by decide +kernel
theorem dX9_readLine_161 : decode cX9_readLine 161 = .ok (.iconst 1, 1) := by decide +kernel
theorem dX9_readLine_162 : decode cX9_readLine 162 = .ok (.invokevirtual 131, 3) := by decide +kernel
theorem dX9_readLine_165 : decode cX9_readLine 165 = .ok (.return_, 1) := by decide +kernel
theorem dX9_readHall_0 : decode cX9_readHall 0 = .ok (.aload_n 0, 1) := by decide +kernel
theorem dX9_readHall_1 : decode cX9_readHall 1 = .ok (.getfield 150, 3) := by decide +kernel
theorem dX9_readHall_4 : decode cX9_readHall 4 = .ok (.getfield 154, 3) := by decide +kernel
theorem dX9_readHall_7 : decode cX9_readHall 7 = .ok (.ifCond .le 8, 3) := by decide +kernel
theorem dX9_readHall_10 : decode cX9_readHall 10 = .ok (.aload_n 0, 1) := by decide +kernel
theorem dX9_readHall_11 : decode cX9_readHall 11 = .ok (.iconst 3, 1) := by decide +kernel
theorem dX9_readHall_12 : decode cX9_readHall 12 = .ok (.invokevirtual 131, 3) := by decide +kernel
theorem dX9_readHall_15 : decode cX9_readHall 15 = .ok (.aload_n 0, 1) := by decide +kernel
theorem dX9_readHall_16 : decode cX9_readHall 16 = .ok (.invokevirtual 124, 3) := by decide +kernel
theorem dX9_readHall_19 : decode cX9_readHall 19 = .ok (.aload_n 0, 1) := by decide +kernel
theorem dX9_readHall_20 : decode cX9_readHall 20 = .ok (.ldc 245, 2) := by decide +kernel
theorem dX9_readHall_22 : decode cX9_readHall 22 = .ok (.iconst 3, 1) := by decide +kernel
theorem dX9_readHall_23 : decode cX9_readHall 23 = .ok (.bipush 8, 2) := by decide +kernel
theorem dX9_readHall_25 : decode cX9_readHall 25 = .ok (.invokevirtual 246, 3) := by decide +kernel
theorem dX9_readHall_28 : decode cX9_readHall 28 = .ok (.istore_n 1, 1) := by decide +kernel
theorem dX9_readHall_29 : decode cX9_readHall 29 = .ok (.aload_n 0, 1) := by decide +kernel
theorem dX9_readHall_30 : decode cX9_readHall 30 = .ok (.ldc 250, 2) := by decide +kernel
theorem dX9_readHall_32 : decode cX9_readHall 32 = .ok (.iconst 2, 1) := by decide +kernel
theorem dX9_readHall_33 : decode cX9_readHall 33 = .ok (.bipush 6, 2) := by decide +kernel
theorem dX9_readHall_35 : decode cX9_readHall 35 = .ok (.invokevirtual 246, 3) := by decide +kernel
theorem dX9_readHall_38 : decode cX9_readHall 38 = .ok (.istore_n 2, 1) := by decide +kernel
theorem dX9_readHall_39 : decode cX9_readHall 39 = .ok (.aload_n 0, 1) := by decide +kernel
theorem dX9_readHall_40 : decode cX9_readHall 40 = .ok (.ldc 251, 2) := by decide +kernel
theorem dX9_readHall_42 : decode cX9_readHall 42 = .ok (.invokevirtual 143, 3) := by decide +kernel
theorem dX9_readHall_45 : decode cX9_readHall 45 = .ok (.aload_n 0, 1) := by decide +kernel
theorem dX9_readHall_46 : decode cX9_readHall 46 = .ok (.ldc 253, 2) := by decide +kernel
theorem dX9_readHall_48 : decode cX9_readHall 48 = .ok (.invokevirtual 127, 3) := by decide +kernel
theorem dX9_readHall_51 : decode cX9_readHall 51 = .ok (.istore_n 3, 1) := by decide +kernel
theorem dX9_readHall_52 : decode cX9_readHall 52 = .ok (.iload_n 3, 1) := by decide +kernel
theorem dX9_readHall_53 : decode cX9_readHall 53 = .ok (.ifCond .ne 17, 3) := by decide +kernel
theorem dX9_readHall_56 : decode cX9_readHall 56 = .ok (.aload_n 0, 1) := by decide +kernel
theorem dX9_readHall_57 : decode cX9_readHall 57 = .ok (.ldc 255, 2) := by decide +kernel
theorem dX9_readHall_59 : decode cX9_readHall 59 = .ok (.invokevirtual 127, 3) := by decide +kernel
theorem dX9_readHall_62 : decode cX9_readHall 62 = .ok (.ifCond .ne 8, 3) := by decide +kernel
theorem dX9_readHall_65 : decode cX9_readHall 65 = .ok (.aload_n 0, 1) := by decide +kernel
theorem dX9_readHall_66 : decode cX9_readHall 66 = .ok (.iconst 1, 1) := by decide +kernel
theorem dX9_readHall_67 : decode cX9_readHall 67 = .ok (.invokevirtual 131, 3) := by decide +kernel
theorem dX9_readHall_70 : decode cX9_readHall 70 = .ok (.aload_n 0, 1) := by decide +kernel
theorem dX9_readHall_71 : decode cX9_readHall 71 = .ok (.invokevirtual 124, 3) := by decide +kernel
theorem dX9_readHall_74 : decode cX9_readHall 74 = .ok (.aload_n 0, 1) := by decide +kernel
theorem dX9_readHall_75 : decode cX9_readHall 75 = .ok (.ldc_w 257, 3) := by decide +kernel
theorem dX9_readHall_78 : decode cX9_readHall 78 = .ok (.invokevirtual 143, 3) := by decide +kernel
theorem dX9_readHall_81 : decode cX9_readHall 81 = .ok (.aload_n 0, 1) := by decide +kernel
theorem dX9_readHall_82 : decode cX9_readHall 82 = .ok (.ldc_w 259, 3) := by decide +kernel
theorem dX9_readHall_85 : decode cX9_readHall 85 = .ok (.invokevirtual 127, 3) := by decide +kernel
theorem dX9_readHall_88 : decode cX9_readHall 88 = .ok (.istore 4, 2) := by decide +kernel
theorem dX9_readHall_90 : decode cX9_readHall 90 = .ok (.iload 4, 2) := by decide +kernel
theorem dX9_readHall_92 : decode cX9_readHall 92 = .ok (.ifCond .ne 18, 3) := by decide +kernel
theorem dX9_readHall_95 : decode cX9_readHall 95 = .ok (.aload_n 0, 1) := by decide +kernel
theorem dX9_readHall_96 : decode cX9_readHall 96 = .ok (.ldc_w 261, 3) := by decide +kernel
theorem dX9_readHall_99 : decode cX9_readHall 99 = .ok (.invokevirtual 127, 3) := by decide +kernel
theorem dX9_readHall_102 : decode cX9_readHall 102 = .ok (.ifCond .ne 8, 3) := by decide +kernel
theorem dX9_readHall_105 : decode cX9_readHall 105 = .ok (.aload_n 0, 1) := by decide +kernel
theorem dX9_readHall_106 : decode cX9_readHall 106 = .ok (.iconst 1, 1) := by decide +kernel
theorem dX9_readHall_107 : decode cX9_readHall 107 = .ok (.invokevirtual 131, 3) := by decide +kernel
theorem dX9_readHall_110 : decode cX9_readHall 110 = .ok (.aload_n 0, 1) := by decide +kernel
theorem dX9_readHall_111 : decode cX9_readHall 111 = .ok (.invokevirtual 124, 3) := by decide +kernel
theorem dX9_readHall_114 : decode cX9_readHall 114 = .ok (.aload_n 0, 1) := by decide +kernel
theorem dX9_readHall_115 : decode cX9_readHall 115 = .ok (.getfield 82, 3) := by decide +kernel
theorem dX9_readHall_118 : decode cX9_readHall 118 = .ok (.iconst 5, 1) := by decide +kernel
theorem dX9_readHall_119 : decode cX9_readHall 119 = .ok (.if_icmp .ne 4, 3) := by decide +kernel
theorem dX9_readHall_122 : decode cX9_readHall 122 = .ok (.return_, 1) := by decide +kernel
theorem dX9_readHall_123 : decode cX9_readHall 123 = .ok (.aload_n 0, 1) := by decide +kernel
theorem dX9_readHall_124 : decode cX9_readHall 124 = .ok (.getfield 150, 3) := by decide +kernel
theorem dX9_readHall_127 : decode cX9_readHall 127 = .ok (.iload_n 1, 1) := by decide +kernel
theorem dX9_readHall_128 : decode cX9_readHall 128 = .ok (.putfield 154, 3) := by decide +kernel
theorem dX9_readHall_131 : decode cX9_readHall 131 = .ok (.aload_n 0, 1) := by decide +kernel
theorem dX9_readHall_132 : decode cX9_readHall 132 = .ok (.getfield 150, 3) := by decide +kernel
theorem dX9_readHall_135 : decode cX9_readHall 135 = .ok (.iload_n 2, 1) := by decide +kernel
theorem dX9_readHall_136 : decode cX9_readHall 136 = .ok (.putfield 161, 3) := by decide +kernel
theorem dX9_readHall_139 : decode cX9_readHall 139 = .ok (.aload_n 0, 1) := by decide +kernel
theorem dX9_readHall_140 : decode cX9_readHall 140 = .ok (.getfield 150, 3) := by decide +kernel
theorem dX9_readHall_143 : decode cX9_readHall 143 = .ok (.iload_n 3, 1) := by decide +kernel
theorem dX9_readHall_144 : decode cX9_readHall 144 = .ok (.putfield 263, 3) := by decide +kernel
theorem dX9_readHall_147 : decode cX9_readHall 147 = .ok (.aload_n 0, 1) := by decide +kernel
theorem dX9_readHall_148 : decode cX9_readHall 148 = .ok (.getfield 150, 3) := by decide +kernel
theorem dX9_readHall_151 : decode cX9_readHall 151 = .ok (.iload 4, 2) := by decide +kernel
theorem dX9_readHall_153 : decode cX9_readHall 153 = .ok (.putfield 266, 3) := by decide +kernel
theorem dX9_readHall_156 : decode cX9_readHall 156 = .ok (.return_, 1) := by decide +kernel
theorem dX9_readRow_0 : decode cX9_readRow 0 = .ok (.aload_n 0, 1) := by decide +kernel
theorem dX9_readRow_1 : decode cX9_readRow 1 = .ok (.iconst 0, 1) := by decide +kernel
theorem dX9_readRow_2 : decode cX9_readRow 2 = .ok (.aload_n 0, 1) := by decide +kernel
theorem dX9_readRow_3 : decode cX9_readRow 3 = .ok (.getfield 150, 3) := by decide +kernel
theorem dX9_readRow_6 : decode cX9_readRow 6 = .ok (.getfield 154, 3) := by decide +kernel
theorem dX9_readRow_9 : decode cX9_readRow 9 = .ok (.ifCond .le 24, 3) := by decide +kernel
theorem dX9_readRow_12 : decode cX9_readRow 12 = .ok (.aload_n 0, 1) := by decide +kernel
theorem dX9_readRow_13 : decode cX9_readRow 13 = .ok (.getfield 150, 3) := by decide +kernel
theorem dX9_readRow_16 : decode cX9_readRow 16 = .ok (.getfield 268, 3) := by decide +kernel
theorem dX9_readRow_19 : decode cX9_readRow 19 = .ok (.aload_n 0, 1) := by decide +kernel
theorem dX9_readRow_20 : decode cX9_readRow 20 = .ok (.getfield 150, 3) := by decide +kernel
theorem dX9_readRow_23 : decode cX9_readRow 23 = .ok (.getfield 161, 3) := by decide +kernel
theorem dX9_readRow_26 : decode cX9_readRow 26 = .ok (.if_icmp .ne 7, 3) := by decide +kernel
theorem dX9_readRow_29 : decode cX9_readRow 29 = .ok (.iconst 1, 1) := by decide +kernel
theorem dX9_readRow_30 : decode cX9_readRow 30 = .ok (.goto 4, 3) := by decide +kernel
theorem dX9_readRow_33 : decode cX9_readRow 33 = .ok (.iconst 0, 1) := by decide +kernel
theorem dX9_readRow_34 : decode cX9_readRow 34 = .ok (.aload_n 0, 1) := by decide +kernel
theorem dX9_readRow_35 : decode cX9_readRow 35 = .ok (.getfield 150, 3) := by decide +kernel
theorem dX9_readRow_38 : decode cX9_readRow 38 = .ok (.getfield 212, 3) := by decide +kernel
theorem dX9_readRow_41 : decode cX9_readRow 41 = .ok (.bipush (-2), 2) := by decide +kernel
theorem dX9_readRow_43 : decode cX9_readRow 43 = .ok (.if_icmp .eq 7, 3) := by decide +kernel
theorem dX9_readRow_46 : decode cX9_readRow 46 = .ok (.iconst 1, 1) := by decide +kernel
theorem dX9_readRow_47 : decode cX9_readRow 47 = .ok (.goto 4, 3) := by decide +kernel
theorem dX9_readRow_50 : decode cX9_readRow 50 = .ok (.iconst 0, 1) := by decide +kernel
theorem dX9_readRow_51 : decode cX9_readRow 51 = .ok (.invokevirtual 271, 3) := by decide +kernel
theorem dX9_readRow_54 : decode cX9_readRow 54 = .ok (.aload_n 0, 1) := by decide +kernel
theorem dX9_readRow_55 : decode cX9_readRow 55 = .ok (.getfield 82, 3) := by decide +kernel
theorem dX9_readRow_58 : decode cX9_readRow 58 = .ok (.iconst 2, 1) := by decide +kernel
theorem dX9_readRow_59 : decode cX9_readRow 59 = .ok (.if_icmp .eq 8, 3) := by decide +kernel
theorem dX9_readRow_62 : decode cX9_readRow 62 = .ok (.aload_n 0, 1) := by decide +kernel
theorem dX9_readRow_63 : decode cX9_readRow 63 = .ok (.iconst 1, 1) := by decide +kernel
theorem dX9_readRow_64 : decode cX9_readRow 64 = .ok (.invokevirtual 131, 3) := by decide +kernel
theorem dX9_readRow_67 : decode cX9_readRow 67 = .ok (.aload_n 0, 1) := by decide +kernel
theorem dX9_readRow_68 : decode cX9_readRow 68 = .ok (.getfield 82, 3) := by decide +kernel
theorem dX9_readRow_71 : decode cX9_readRow 71 = .ok (.iconst 5, 1) := by decide +kernel
theorem dX9_readRow_72 : decode cX9_readRow 72 = .ok (.if_icmp .ne 4, 3) := by decide +kernel
theorem dX9_readRow_75 : decode cX9_readRow 75 = .ok (.return_, 1) := by decide +kernel
theorem dX9_readRow_76 : decode cX9_readRow 76 = .ok (.aload_n 0, 1) := by decide +kernel
theorem dX9_readRow_77 : decode cX9_readRow 77 = .ok (.getfield 105, 3) := by decide +kernel
theorem dX9_readRow_80 : decode cX9_readRow 80 = .ok (.aload_n 0, 1) := by decide +kernel
theorem dX9_readRow_81 : decode cX9_readRow 81 = .ok (.getfield 150, 3) := by decide +kernel
theorem dX9_readRow_84 : decode cX9_readRow 84 = .ok (.getfield 154, 3) := by decide +kernel
theorem dX9_readRow_87 : decode cX9_readRow 87 = .ok (.if_icmp .eq 9, 3) := by decide +kernel
theorem dX9_readRow_90 : decode cX9_readRow 90 = .ok (.aload_n 0, 1) := by decide +kernel
theorem dX9_readRow_91 : decode cX9_readRow 91 = .ok (.bipush 7, 2) := by decide +kernel
theorem dX9_readRow_93 : decode cX9_readRow 93 = .ok (.invokevirtual 131, 3) := by decide +kernel
theorem dX9_readRow_96 : decode cX9_readRow 96 = .ok (.iconst 0, 1) := by decide +kernel
theorem dX9_readRow_97 : decode cX9_readRow 97 = .ok (.istore_n 1, 1) := by decide +kernel
theorem dX9_readRow_98 : decode cX9_readRow 98 = .ok (.iload_n 1, 1) := by decide +kernel
theorem dX9_readRow_99 : decode cX9_readRow 99 = .ok (.aload_n 0, 1) := by decide +kernel
theorem dX9_readRow_100 : decode cX9_readRow 100 = .ok (.getfield 150, 3) := by decide +kernel
theorem dX9_readRow_103 : decode cX9_readRow 103 = .ok (.getfield 154, 3) := by decide +kernel
theorem dX9_readRow_106 : decode cX9_readRow 106 = .ok (.if_icmp .ge 104, 3) := by decide +kernel
theorem dX9_readRow_109 : decode cX9_readRow 109 = .ok (.aload_n 0, 1) := by decide +kernel
theorem dX9_readRow_110 : decode cX9_readRow 110 = .ok (.getfield 82, 3) := by decide +kernel
theorem dX9_readRow_113 : decode cX9_readRow 113 = .ok (.iconst 5, 1) := by decide +kernel
theorem dX9_readRow_114 : decode cX9_readRow 114 = .ok (.if_icmp .eq 96, 3) := by decide +kernel
theorem dX9_readRow_117 : decode cX9_readRow 117 = .ok (.aload_n 0, 1) := by decide +kernel
theorem dX9_readRow_118 : decode cX9_readRow 118 = .ok (.getfield 17, 3) := by decide +kernel
theorem dX9_readRow_121 : decode cX9_readRow 121 = .ok (.iload_n 1, 1) := by decide +kernel
theorem dX9_readRow_122 : decode cX9_readRow 122 = .ok (.iaload, 1) := by decide +kernel
theorem dX9_readRow_123 : decode cX9_readRow 123 = .ok (.bipush 102, 2) := by decide +kernel
theorem dX9_readRow_125 : decode cX9_readRow 125 = .ok (.if_icmp .ne 7, 3) := by decide +kernel
theorem dX9_readRow_128 : decode cX9_readRow 128 = .ok (.iconst 0, 1) := by decide +kernel
theorem dX9_readRow_129 : decode cX9_readRow 129 = .ok (.goto 34, 3) := by decide +kernel
theorem dX9_readRow_132 : decode cX9_readRow 132 = .ok (.aload_n 0, 1) := by decide +kernel
theorem dX9_readRow_133 : decode cX9_readRow 133 = .ok (.getfield 17, 3) := by decide +kernel
theorem dX9_readRow_136 : decode cX9_readRow 136 = .ok (.iload_n 1, 1) := by decide +kernel
theorem dX9_readRow_137 : decode cX9_readRow 137 = .ok (.iaload, 1) := by decide +kernel
theorem dX9_readRow_138 : decode cX9_readRow 138 = .ok (.bipush 115, 2) := by decide +kernel
theorem dX9_readRow_140 : decode cX9_readRow 140 = .ok (.if_icmp .ne 7, 3) := by decide +kernel
theorem dX9_readRow_143 : decode cX9_readRow 143 = .ok (.iconst 1, 1) := by decide +kernel
theorem dX9_readRow_144 : decode cX9_readRow 144 = .ok (.goto 19, 3) := by decide +kernel
theorem dX9_readRow_147 : decode cX9_readRow 147 = .ok (.aload_n 0, 1) := by decide +kernel
theorem dX9_readRow_148 : decode cX9_readRow 148 = .ok (.getfield 17, 3) := by decide +kernel
theorem dX9_readRow_151 : decode cX9_readRow 151 = .ok (.iload_n 1, 1) := by decide +kernel
theorem dX9_readRow_152 : decode cX9_readRow 152 = .ok (.iaload, 1) := by decide +kernel
theorem dX9_readRow_153 : decode cX9_readRow 153 = .ok (.bipush 119, 2) := by decide +kernel
theorem dX9_readRow_155 : decode cX9_readRow 155 = .ok (.if_icmp .ne 7, 3) := by decide +kernel
theorem dX9_readRow_158 : decode cX9_readRow 158 = .ok (.iconst 2, 1) := by decide +kernel
theorem dX9_readRow_159 : decode cX9_readRow 159 = .ok (.goto 4, 3) := by decide +kernel
theorem dX9_readRow_162 : decode cX9_readRow 162 = .ok (.iconst (-1), 1) := by decide +kernel
theorem dX9_readRow_163 : decode cX9_readRow 163 = .ok (.istore_n 2, 1) := by decide +kernel
theorem dX9_readRow_164 : decode cX9_readRow 164 = .ok (.iload_n 2, 1) := by decide +kernel
theorem dX9_readRow_165 : decode cX9_readRow 165 = .ok (.iconst (-1), 1) := by decide +kernel
theorem dX9_readRow_166 : decode cX9_readRow 166 = .ok (.if_icmp .ne 12, 3) := by decide +kernel
theorem dX9_readRow_169 : decode cX9_readRow 169 = .ok (.aload_n 0, 1) := by decide +kernel
theorem dX9_readRow_170 : decode cX9_readRow 170 = .ok (.bipush 7, 2) := by decide +kernel
theorem dX9_readRow_172 : decode cX9_readRow 172 = .ok (.invokevirtual 131, 3) := by decide +kernel
theorem dX9_readRow_175 : decode cX9_readRow 175 = .ok (.goto 29, 3) := by decide +kernel
theorem dX9_readRow_178 : decode cX9_readRow 178 = .ok (.aload_n 0, 1) := by decide +kernel
theorem dX9_readRow_179 : decode cX9_readRow 179 = .ok (.getfield 150, 3) := by decide +kernel
theorem dX9_readRow_182 : decode cX9_readRow 182 = .ok (.getfield 275, 3) := by decide +kernel
theorem dX9_readRow_185 : decode cX9_readRow 185 = .ok (.aload_n 0, 1) := by decide +kernel
theorem dX9_readRow_186 : decode cX9_readRow 186 = .ok (.getfield 150, 3) := by decide +kernel
theorem dX9_readRow_189 : decode cX9_readRow 189 = .ok (.getfield 154, 3) := by decide +kernel
theorem dX9_readRow_192 : decode cX9_readRow 192 = .ok (.aload_n 0, 1) := by decide +kernel
theorem dX9_readRow_193 : decode cX9_readRow 193 = .ok (.getfield 150, 3) := by decide +kernel
theorem dX9_readRow_196 : decode cX9_readRow 196 = .ok (.getfield 268, 3) := by decide +kernel
theorem dX9_readRow_199 : decode cX9_readRow 199 = .ok (.imul, 1) := by decide +kernel
theorem dX9_readRow_200 : decode cX9_readRow 200 = .ok (.iload_n 1, 1) := by decide +kernel
theorem dX9_readRow_201 : decode cX9_readRow 201 = .ok (.iadd, 1) := by decide +kernel
theorem dX9_readRow_202 : decode cX9_readRow 202 = .ok (.iload_n 2, 1) := by decide +kernel
theorem dX9_readRow_203 : decode cX9_readRow 203 = .ok (.iastore, 1) := by decide +kernel
theorem dX9_readRow_204 : decode cX9_readRow 204 = .ok (.iinc 1 1, 3) := by decide +kernel
theorem dX9_readRow_207 : decode cX9_readRow 207 = .ok (.goto (-109), 3) := by decide +kernel
theorem dX9_readRow_210 : decode cX9_readRow 210 = .ok (.aload_n 0, 1) := by decide +kernel
theorem dX9_readRow_211 : decode cX9_readRow 211 = .ok (.invokevirtual 124, 3) := by decide +kernel
theorem dX9_readRow_214 : decode cX9_readRow 214 = .ok (.aload_n 0, 1) := by decide +kernel
theorem dX9_readRow_215 : decode cX9_readRow 215 = .ok (.getfield 82, 3) := by decide +kernel
theorem dX9_readRow_218 : decode cX9_readRow 218 = .ok (.iconst 5, 1) := by decide +kernel
theorem dX9_readRow_219 : decode cX9_readRow 219 = .ok (.if_icmp .eq 16, 3) := by decide +kernel
theorem dX9_readRow_222 : decode cX9_readRow 222 = .ok (.aload_n 0, 1) := by decide +kernel
theorem dX9_readRow_223 : decode cX9_readRow 223 = .ok (.getfield 150, 3) := by decide +kernel
theorem dX9_readRow_226 : decode cX9_readRow 226 = .ok (.dup, 1) := by decide +kernel
theorem dX9_readRow_227 : decode cX9_readRow 227 = .ok (.getfield 268, 3) := by decide +kernel
theorem dX9_readRow_230 : decode cX9_readRow 230 = .ok (.iconst 1, 1) := by decide +kernel
theorem dX9_readRow_231 : decode cX9_readRow 231 = .ok (.iadd, 1) := by decide +kernel
theorem dX9_readRow_232 : decode cX9_readRow 232 = .ok (.putfield 268, 3) := by decide +kernel
theorem dX9_readRow_235 : decode cX9_readRow 235 = .ok (.return_, 1) := by decide +kernel
theorem dX9_readBand_0 : decode cX9_readBand 0 = .ok (.aload_n 0, 1) := by decide +kernel
theorem dX9_readBand_1 : decode cX9_readBand 1 = .ok (.aload_n 0, 1) := by decide +kernel
theorem dX9_readBand_2 : decode cX9_readBand 2 = .ok (.getfield 150, 3) := by decide +kernel
theorem dX9_readBand_5 : decode cX9_readBand 5 = .ok (.getfield 278, 3) := by decide +kernel
theorem dX9_readBand_8 : decode cX9_readBand 8 = .ok (.bipush (-2), 2) := by decide +kernel
theorem dX9_readBand_10 : decode cX9_readBand 10 = .ok (.if_icmp .eq 7, 3) := by decide +kernel
theorem dX9_readBand_13 : decode cX9_readBand 13 = .ok (.iconst 1, 1) := by decide +kernel
theorem dX9_readBand_14 : decode cX9_readBand 14 = .ok (.goto 4, 3) := by decide +kernel
theorem dX9_readBand_17 : decode cX9_readBand 17 = .ok (.iconst 0, 1) := by decide +kernel
theorem dX9_readBand_18 : decode cX9_readBand 18 = .ok (.iconst 0, 1) := by decide +kernel
theorem dX9_readBand_19 : decode cX9_readBand 19 = .ok (.iconst 0, 1) := by decide +kernel
theorem dX9_readBand_20 : decode cX9_readBand 20 = .ok (.invokevirtual 271, 3) := by decide +kernel
theorem dX9_readBand_23 : decode cX9_readBand 23 = .ok (.aload_n 0, 1) := by decide +kernel
theorem dX9_readBand_24 : decode cX9_readBand 24 = .ok (.invokevirtual 280, 3) := by decide +kernel
theorem dX9_readBand_27 : decode cX9_readBand 27 = .ok (.istore_n 1, 1) := by decide +kernel
theorem dX9_readBand_28 : decode cX9_readBand 28 = .ok (.aload_n 0, 1) := by decide +kernel
theorem dX9_readBand_29 : decode cX9_readBand 29 = .ok (.invokevirtual 124, 3) := by decide +kernel
theorem dX9_readBand_32 : decode cX9_readBand 32 = .ok (.aload_n 0, 1) := by decide +kernel
theorem dX9_readBand_33 : decode cX9_readBand 33 = .ok (.ldc_w 283, 3) := by decide +kernel
theorem dX9_readBand_36 : decode cX9_readBand 36 = .ok (.iconst 1, 1) := by decide +kernel
theorem dX9_readBand_37 : decode cX9_readBand 37 = .ok (.bipush 9, 2) := by decide +kernel
theorem dX9_readBand_39 : decode cX9_readBand 39 = .ok (.invokevirtual 246, 3) := by decide +kernel
theorem dX9_readBand_42 : decode cX9_readBand 42 = .ok (.istore_n 2, 1) := by decide +kernel
theorem dX9_readBand_43 : decode cX9_readBand 43 = .ok (.aload_n 0, 1) := by decide +kernel
theorem dX9_readBand_44 : decode cX9_readBand 44 = .ok (.getfield 82, 3) := by decide +kernel
theorem dX9_readBand_47 : decode cX9_readBand 47 = .ok (.iconst 5, 1) := by decide +kernel
theorem dX9_readBand_48 : decode cX9_readBand 48 = .ok (.if_icmp .ne 4, 3) := by decide +kernel
theorem dX9_readBand_51 : decode cX9_readBand 51 = .ok (.return_, 1) := by decide +kernel
theorem dX9_readBand_52 : decode cX9_readBand 52 = .ok (.aload_n 0, 1) := by decide +kernel
theorem dX9_readBand_53 : decode cX9_readBand 53 = .ok (.getfield 150, 3) := by decide +kernel
theorem dX9_readBand_56 : decode cX9_readBand 56 = .ok (.iload_n 1, 1) := by decide +kernel
theorem dX9_readBand_57 : decode cX9_readBand 57 = .ok (.putfield 278, 3) := by decide +kernel
theorem dX9_readBand_60 : decode cX9_readBand 60 = .ok (.aload_n 0, 1) := by decide +kernel
theorem dX9_readBand_61 : decode cX9_readBand 61 = .ok (.getfield 150, 3) := by decide +kernel
theorem dX9_readBand_64 : decode cX9_readBand 64 = .ok (.iload_n 2, 1) := by decide +kernel
theorem dX9_readBand_65 : decode cX9_readBand 65 = .ok (.putfield 285, 3) := by decide +kernel
theorem dX9_readBand_68 : decode cX9_readBand 68 = .ok (.return_, 1) := by decide +kernel
theorem dX9_readHome_0 : decode cX9_readHome 0 = .ok (.aload_n 0, 1) := by decide +kernel
theorem dX9_readHome_1 : decode cX9_readHome 1 = .ok (.aload_n 0, 1) := by decide +kernel
theorem dX9_readHome_2 : decode cX9_readHome 2 = .ok (.getfield 150, 3) := by decide +kernel
theorem dX9_readHome_5 : decode cX9_readHome 5 = .ok (.getfield 287, 3) := by decide +kernel
theorem dX9_readHome_8 : decode cX9_readHome 8 = .ok (.bipush (-2), 2) := by decide +kernel
theorem dX9_readHome_10 : decode cX9_readHome 10 = .ok (.if_icmp .eq 7, 3) := by decide +kernel
theorem dX9_readHome_13 : decode cX9_readHome 13 = .ok (.iconst 1, 1) := by decide +kernel
theorem dX9_readHome_14 : decode cX9_readHome 14 = .ok (.goto 4, 3) := by decide +kernel
theorem dX9_readHome_17 : decode cX9_readHome 17 = .ok (.iconst 0, 1) := by decide +kernel
theorem dX9_readHome_18 : decode cX9_readHome 18 = .ok (.iconst 0, 1) := by decide +kernel
theorem dX9_readHome_19 : decode cX9_readHome 19 = .ok (.iconst 0, 1) := by decide +kernel
theorem dX9_readHome_20 : decode cX9_readHome 20 = .ok (.invokevirtual 271, 3) := by decide +kernel
theorem dX9_readHome_23 : decode cX9_readHome 23 = .ok (.aload_n 0, 1) := by decide +kernel
theorem dX9_readHome_24 : decode cX9_readHome 24 = .ok (.invokevirtual 280, 3) := by decide +kernel
theorem dX9_readHome_27 : decode cX9_readHome 27 = .ok (.istore_n 1, 1) := by decide +kernel
theorem dX9_readHome_28 : decode cX9_readHome 28 = .ok (.aload_n 0, 1) := by decide +kernel
theorem dX9_readHome_29 : decode cX9_readHome 29 = .ok (.invokevirtual 124, 3) := by decide +kernel
theorem dX9_readHome_32 : decode cX9_readHome 32 = .ok (.aload_n 0, 1) := by decide +kernel
theorem dX9_readHome_33 : decode cX9_readHome 33 = .ok (.getfield 82, 3) := by decide +kernel
theorem dX9_readHome_36 : decode cX9_readHome 36 = .ok (.iconst 5, 1) := by decide +kernel
theorem dX9_readHome_37 : decode cX9_readHome 37 = .ok (.if_icmp .eq 11, 3) := by decide +kernel
theorem dX9_readHome_40 : decode cX9_readHome 40 = .ok (.aload_n 0, 1) := by decide +kernel
theorem dX9_readHome_41 : decode cX9_readHome 41 = .ok (.getfield 150, 3) := by decide +kernel
theorem dX9_readHome_44 : decode cX9_readHome 44 = .ok (.iload_n 1, 1) := by decide +kernel
theorem dX9_readHome_45 : decode cX9_readHome 45 = .ok (.putfield 287, 3) := by decide +kernel
theorem dX9_readHome_48 : decode cX9_readHome 48 = .ok (.return_, 1) := by decide +kernel
theorem dX9_readSteps_0 : decode cX9_readSteps 0 = .ok (.aload_n 0, 1) := by decide +kernel
theorem dX9_readSteps_1 : decode cX9_readSteps 1 = .ok (.aload_n 0, 1) := by decide +kernel
theorem dX9_readSteps_2 : decode cX9_readSteps 2 = .ok (.getfield 150, 3) := by decide +kernel
theorem dX9_readSteps_5 : decode cX9_readSteps 5 = .ok (.getfield 206, 3) := by decide +kernel
theorem dX9_readSteps_8 : decode cX9_readSteps 8 = .ok (.ifCond .le 7, 3) := by decide +kernel
theorem dX9_readSteps_11 : decode cX9_readSteps 11 = .ok (.iconst 1, 1) := by decide +kernel
theorem dX9_readSteps_12 : decode cX9_readSteps 12 = .ok (.goto 4, 3) := by decide +kernel
theorem dX9_readSteps_15 : decode cX9_readSteps 15 = .ok (.iconst 0, 1) := by decide +kernel
theorem dX9_readSteps_16 : decode cX9_readSteps 16 = .ok (.iconst 0, 1) := by decide +kernel
theorem dX9_readSteps_17 : decode cX9_readSteps 17 = .ok (.iconst 0, 1) := by decide +kernel
theorem dX9_readSteps_18 : decode cX9_readSteps 18 = .ok (.invokevirtual 271, 3) := by decide +kernel
theorem dX9_readSteps_21 : decode cX9_readSteps 21 = .ok (.iconst 1, 1) := by decide +kernel
theorem dX9_readSteps_22 : decode cX9_readSteps 22 = .ok (.istore_n 1, 1) := by decide +kernel
theorem dX9_readSteps_23 : decode cX9_readSteps 23 = .ok (.iload_n 1, 1) := by decide +kernel
theorem dX9_readSteps_24 : decode cX9_readSteps 24 = .ok (.ifCond .eq 79, 3) := by decide +kernel
theorem dX9_readSteps_27 : decode cX9_readSteps 27 = .ok (.aload_n 0, 1) := by decide +kernel
theorem dX9_readSteps_28 : decode cX9_readSteps 28 = .ok (.iconst 0, 1) := by decide +kernel
theorem dX9_readSteps_29 : decode cX9_readSteps 29 = .ok (.iconst 3, 1) := by decide +kernel
theorem dX9_readSteps_30 : decode cX9_readSteps 30 = .ok (.invokevirtual 139, 3) := by decide +kernel
theorem dX9_readSteps_33 : decode cX9_readSteps 33 = .ok (.istore_n 2, 1) := by decide +kernel
theorem dX9_readSteps_34 : decode cX9_readSteps 34 = .ok (.aload_n 0, 1) := by decide +kernel
theorem dX9_readSteps_35 : decode cX9_readSteps 35 = .ok (.getfield 150, 3) := by decide +kernel
theorem dX9_readSteps_38 : decode cX9_readSteps 38 = .ok (.getfield 206, 3) := by decide +kernel
theorem dX9_readSteps_41 : decode cX9_readSteps 41 = .ok (.bipush 8, 2) := by decide +kernel
theorem dX9_readSteps_43 : decode cX9_readSteps 43 = .ok (.if_icmp .ne 8, 3) := by decide +kernel
theorem dX9_readSteps_46 : decode cX9_readSteps 46 = .ok (.aload_n 0, 1) := by decide +kernel
theorem dX9_readSteps_47 : decode cX9_readSteps 47 = .ok (.iconst 5, 1) := by decide +kernel
theorem dX9_readSteps_48 : decode cX9_readSteps 48 = .ok (.invokevirtual 131, 3) := by decide +kernel
theorem dX9_readSteps_51 : decode cX9_readSteps 51 = .ok (.aload_n 0, 1) := by decide +kernel
theorem dX9_readSteps_52 : decode cX9_readSteps 52 = .ok (.invokevirtual 124, 3) := by decide +kernel
theorem dX9_readSteps_55 : decode cX9_readSteps 55 = .ok (.aload_n 0, 1) := by decide +kernel
theorem dX9_readSteps_56 : decode cX9_readSteps 56 = .ok (.getfield 82, 3) := by decide +kernel
theorem dX9_readSteps_59 : decode cX9_readSteps 59 = .ok (.iconst 5, 1) := by decide +kernel
theorem dX9_readSteps_60 : decode cX9_readSteps 60 = .ok (.if_icmp .ne 4, 3) := by decide +kernel
theorem dX9_readSteps_63 : decode cX9_readSteps 63 = .ok (.return_, 1) := by decide +kernel
theorem dX9_readSteps_64 : decode cX9_readSteps 64 = .ok (.aload_n 0, 1) := by decide +kernel
theorem dX9_readSteps_65 : decode cX9_readSteps 65 = .ok (.getfield 150, 3) := by decide +kernel
theorem dX9_readSteps_68 : decode cX9_readSteps 68 = .ok (.getfield 289, 3) := by decide +kernel
theorem dX9_readSteps_71 : decode cX9_readSteps 71 = .ok (.aload_n 0, 1) := by decide +kernel
theorem dX9_readSteps_72 : decode cX9_readSteps 72 = .ok (.getfield 150, 3) := by decide +kernel
theorem dX9_readSteps_75 : decode cX9_readSteps 75 = .ok (.getfield 206, 3) := by decide +kernel
theorem dX9_readSteps_78 : decode cX9_readSteps 78 = .ok (.iload_n 2, 1) := by decide +kernel
theorem dX9_readSteps_79 : decode cX9_readSteps 79 = .ok (.iastore, 1) := by decide +kernel
theorem dX9_readSteps_80 : decode cX9_readSteps 80 = .ok (.aload_n 0, 1) := by decide +kernel
theorem dX9_readSteps_81 : decode cX9_readSteps 81 = .ok (.getfield 150, 3) := by decide +kernel
theorem dX9_readSteps_84 : decode cX9_readSteps 84 = .ok (.dup, 1) := by decide +kernel
theorem dX9_readSteps_85 : decode cX9_readSteps 85 = .ok (.getfield 206, 3) := by decide +kernel
theorem dX9_readSteps_88 : decode cX9_readSteps 88 = .ok (.iconst 1, 1) := by decide +kernel
theorem dX9_readSteps_89 : decode cX9_readSteps 89 = .ok (.iadd, 1) := by decide +kernel
theorem dX9_readSteps_90 : decode cX9_readSteps 90 = .ok (.putfield 206, 3) := by decide +kernel
theorem dX9_readSteps_93 : decode cX9_readSteps 93 = .ok (.aload_n 0, 1) := by decide +kernel
theorem dX9_readSteps_94 : decode cX9_readSteps 94 = .ok (.bipush 44, 2) := by decide +kernel
theorem dX9_readSteps_96 : decode cX9_readSteps 96 = .ok (.invokevirtual 203, 3) := by decide +kernel
theorem dX9_readSteps_99 : decode cX9_readSteps 99 = .ok (.istore_n 1, 1) := by decide +kernel
theorem dX9_readSteps_100 : decode cX9_readSteps 100 = .ok (.goto (-77), 3) := by decide +kernel
theorem dX9_readSteps_103 : decode cX9_readSteps 103 = .ok (.return_, 1) := by decide +kernel
theorem dX9_readLeads_0 : decode cX9_readLeads 0 = .ok (.aload_n 0, 1) := by decide +kernel
theorem dX9_readLeads_1 : decode cX9_readLeads 1 = .ok (.aload_n 0, 1) := by decide +kernel
theorem dX9_readLeads_2 : decode cX9_readLeads 2 = .ok (.getfield 150, 3) := by decide +kernel
theorem dX9_readLeads_5 : decode cX9_readLeads 5 = .ok (.getfield 209, 3) := by decide +kernel
theorem dX9_readLeads_8 : decode cX9_readLeads 8 = .ok (.iconst (-1), 1) := by decide +kernel
theorem dX9_readLeads_9 : decode cX9_readLeads 9 = .ok (.if_icmp .eq 7, 3) := by decide +kernel
theorem dX9_readLeads_12 : decode cX9_readLeads 12 = .ok (.iconst 1, 1) := by decide +kernel
theorem dX9_readLeads_13 : decode cX9_readLeads 13 = .ok (.goto 4, 3) := by decide +kernel
theorem dX9_readLeads_16 : decode cX9_readLeads 16 = .ok (.iconst 0, 1) := by decide +kernel
theorem dX9_readLeads_17 : decode cX9_readLeads 17 = .ok (.iconst 0, 1) := by decide +kernel
theorem dX9_readLeads_18 : decode cX9_readLeads 18 = .ok (.iconst 0, 1) := by decide +kernel
theorem dX9_readLeads_19 : decode cX9_readLeads 19 = .ok (.invokevirtual 271, 3) := by decide +kernel
theorem dX9_readLeads_22 : decode cX9_readLeads 22 = .ok (.aload_n 0, 1) := by decide +kernel
theorem dX9_readLeads_23 : decode cX9_readLeads 23 = .ok (.ldc_w 292, 3) := by decide +kernel
theorem dX9_readLeads_26 : decode cX9_readLeads 26 = .ok (.invokevirtual 127, 3) := by decide +kernel
theorem dX9_readLeads_29 : decode cX9_readLeads 29 = .ok (.ifCond .eq 7, 3) := by decide +kernel
theorem dX9_readLeads_32 : decode cX9_readLeads 32 = .ok (.iconst 0, 1) := by decide +kernel
theorem dX9_readLeads_33 : decode cX9_readLeads 33 = .ok (.goto 73, 3) := by decide +kernel
theorem dX9_readLeads_36 : decode cX9_readLeads 36 = .ok (.aload_n 0, 1) := by decide +kernel
theorem dX9_readLeads_37 : decode cX9_readLeads 37 = .ok (.ldc_w 294, 3) := by decide +kernel
theorem dX9_readLeads_40 : decode cX9_readLeads 40 = .ok (.invokevirtual 127, 3) := by decide +kernel
theorem dX9_readLeads_43 : decode cX9_readLeads 43 = .ok (.ifCond .eq 7, 3) := by decide +kernel
theorem dX9_readLeads_46 : decode cX9_readLeads 46 = .ok (.iconst 1, 1) := by decide +kernel
theorem dX9_readLeads_47 : decode cX9_readLeads 47 = .ok (.goto 59, 3) := by decide +kernel
theorem dX9_readLeads_50 : decode cX9_readLeads 50 = .ok (.aload_n 0, 1) := by decide +kernel
theorem dX9_readLeads_51 : decode cX9_readLeads 51 = .ok (.ldc_w 296, 3) := by decide +kernel
theorem dX9_readLeads_54 : decode cX9_readLeads 54 = .ok (.invokevirtual 127, 3) := by decide +kernel
theorem dX9_readLeads_57 : decode cX9_readLeads 57 = .ok (.ifCond .eq 7, 3) := by decide +kernel
theorem dX9_readLeads_60 : decode cX9_readLeads 60 = .ok (.iconst 2, 1) := by decide +kernel
theorem dX9_readLeads_61 : decode cX9_readLeads 61 = .ok (.goto 45, 3) := by decide +kernel
theorem dX9_readLeads_64 : decode cX9_readLeads 64 = .ok (.aload_n 0, 1) := by decide +kernel
theorem dX9_readLeads_65 : decode cX9_readLeads 65 = .ok (.ldc_w 298, 3) := by decide +kernel
theorem dX9_readLeads_68 : decode cX9_readLeads 68 = .ok (.invokevirtual 127, 3) := by decide +kernel
theorem dX9_readLeads_71 : decode cX9_readLeads 71 = .ok (.ifCond .eq 7, 3) := by decide +kernel
theorem dX9_readLeads_74 : decode cX9_readLeads 74 = .ok (.iconst 3, 1) := by decide +kernel
theorem dX9_readLeads_75 : decode cX9_readLeads 75 = .ok (.goto 31, 3) := by decide +kernel
theorem dX9_readLeads_78 : decode cX9_readLeads 78 = .ok (.aload_n 0, 1) := by decide +kernel
theorem dX9_readLeads_79 : decode cX9_readLeads 79 = .ok (.ldc 170, 2) := by decide +kernel
theorem dX9_readLeads_81 : decode cX9_readLeads 81 = .ok (.invokevirtual 127, 3) := by decide +kernel
theorem dX9_readLeads_84 : decode cX9_readLeads 84 = .ok (.ifCond .eq 7, 3) := by decide +kernel
theorem dX9_readLeads_87 : decode cX9_readLeads 87 = .ok (.iconst 4, 1) := by decide +kernel
theorem dX9_readLeads_88 : decode cX9_readLeads 88 = .ok (.goto 18, 3) := by decide +kernel
theorem dX9_readLeads_91 : decode cX9_readLeads 91 = .ok (.aload_n 0, 1) := by decide +kernel
theorem dX9_readLeads_92 : decode cX9_readLeads 92 = .ok (.ldc_w 300, 3) := by decide +kernel
theorem dX9_readLeads_95 : decode cX9_readLeads 95 = .ok (.invokevirtual 127, 3) := by decide +kernel
theorem dX9_readLeads_98 : decode cX9_readLeads 98 = .ok (.ifCond .eq 7, 3) := by decide +kernel
theorem dX9_readLeads_101 : decode cX9_readLeads 101 = .ok (.iconst 5, 1) := by decide +kernel
theorem dX9_readLeads_102 : decode cX9_readLeads 102 = .ok (.goto 4, 3) := by decide +kernel
theorem dX9_readLeads_105 : decode cX9_readLeads 105 = .ok (.iconst (-1), 1) := by decide +kernel
theorem dX9_readLeads_106 : decode cX9_readLeads 106 = .ok (.istore_n 1, 1) := by decide +kernel
theorem dX9_readLeads_107 : decode cX9_readLeads 107 = .ok (.iload_n 1, 1) := by decide +kernel
theorem dX9_readLeads_108 : decode cX9_readLeads 108 = .ok (.iconst (-1), 1) := by decide +kernel
theorem dX9_readLeads_109 : decode cX9_readLeads 109 = .ok (.if_icmp .ne 8, 3) := by decide +kernel
theorem dX9_readLeads_112 : decode cX9_readLeads 112 = .ok (.aload_n 0, 1) := by decide +kernel
theorem dX9_readLeads_113 : decode cX9_readLeads 113 = .ok (.iconst 1, 1) := by decide +kernel
theorem dX9_readLeads_114 : decode cX9_readLeads 114 = .ok (.invokevirtual 131, 3) := by decide +kernel
theorem dX9_readLeads_117 : decode cX9_readLeads 117 = .ok (.aload_n 0, 1) := by decide +kernel
theorem dX9_readLeads_118 : decode cX9_readLeads 118 = .ok (.invokevirtual 124, 3) := by decide +kernel
theorem dX9_readLeads_121 : decode cX9_readLeads 121 = .ok (.iload_n 1, 1) := by decide +kernel
theorem dX9_readLeads_122 : decode cX9_readLeads 122 = .ok (.iconst 5, 1) := by decide +kernel
theorem dX9_readLeads_123 : decode cX9_readLeads 123 = .ok (.if_icmp .ne 7, 3) := by decide +kernel
theorem dX9_readLeads_126 : decode cX9_readLeads 126 = .ok (.iconst 1, 1) := by decide +kernel
theorem dX9_readLeads_127 : decode cX9_readLeads 127 = .ok (.goto 4, 3) := by decide +kernel
theorem dX9_readLeads_130 : decode cX9_readLeads 130 = .ok (.iconst 0, 1) := by decide +kernel
theorem dX9_readLeads_131 : decode cX9_readLeads 131 = .ok (.istore_n 2, 1) := by decide +kernel
theorem dX9_readLeads_132 : decode cX9_readLeads 132 = .ok (.iload_n 2, 1) := by decide +kernel
theorem dX9_readLeads_133 : decode cX9_readLeads 133 = .ok (.ifCond .eq 77, 3) := by decide +kernel
theorem dX9_readLeads_136 : decode cX9_readLeads 136 = .ok (.aload_n 0, 1) := by decide +kernel
theorem dX9_readLeads_137 : decode cX9_readLeads 137 = .ok (.invokevirtual 302, 3) := by decide +kernel
theorem dX9_readLeads_140 : decode cX9_readLeads 140 = .ok (.istore_n 3, 1) := by decide +kernel
theorem dX9_readLeads_141 : decode cX9_readLeads 141 = .ok (.aload_n 0, 1) := by decide +kernel
theorem dX9_readLeads_142 : decode cX9_readLeads 142 = .ok (.getfield 150, 3) := by decide +kernel
theorem dX9_readLeads_145 : decode cX9_readLeads 145 = .ok (.getfield 305, 3) := by decide +kernel
theorem dX9_readLeads_148 : decode cX9_readLeads 148 = .ok (.bipush 12, 2) := by decide +kernel
theorem dX9_readLeads_150 : decode cX9_readLeads 150 = .ok (.if_icmp .ne 8, 3) := by decide +kernel
theorem dX9_readLeads_153 : decode cX9_readLeads 153 = .ok (.aload_n 0, 1) := by decide +kernel
theorem dX9_readLeads_154 : decode cX9_readLeads 154 = .ok (.iconst 5, 1) := by decide +kernel
theorem dX9_readLeads_155 : decode cX9_readLeads 155 = .ok (.invokevirtual 131, 3) := by decide +kernel
theorem dX9_readLeads_158 : decode cX9_readLeads 158 = .ok (.aload_n 0, 1) := by decide +kernel
theorem dX9_readLeads_159 : decode cX9_readLeads 159 = .ok (.invokevirtual 124, 3) := by decide +kernel
theorem dX9_readLeads_162 : decode cX9_readLeads 162 = .ok (.aload_n 0, 1) := by decide +kernel
theorem dX9_readLeads_163 : decode cX9_readLeads 163 = .ok (.getfield 82, 3) := by decide +kernel
theorem dX9_readLeads_166 : decode cX9_readLeads 166 = .ok (.iconst 5, 1) := by decide +kernel
theorem dX9_readLeads_167 : decode cX9_readLeads 167 = .ok (.if_icmp .ne 4, 3) := by decide +kernel
theorem dX9_readLeads_170 : decode cX9_readLeads 170 = .ok (.return_, 1) := by decide +kernel
theorem dX9_readLeads_171 : decode cX9_readLeads 171 = .ok (.aload_n 0, 1) := by decide +kernel
theorem dX9_readLeads_172 : decode cX9_readLeads 172 = .ok (.getfield 150, 3) := by decide +kernel
theorem dX9_readLeads_175 : decode cX9_readLeads 175 = .ok (.getfield 308, 3) := by decide +kernel
theorem dX9_readLeads_178 : decode cX9_readLeads 178 = .ok (.aload_n 0, 1) := by decide +kernel
theorem dX9_readLeads_179 : decode cX9_readLeads 179 = .ok (.getfield 150, 3) := by decide +kernel
theorem dX9_readLeads_182 : decode cX9_readLeads 182 = .ok (.getfield 305, 3) := by decide +kernel
theorem dX9_readLeads_185 : decode cX9_readLeads 185 = .ok (.iload_n 3, 1) := by decide +kernel
theorem dX9_readLeads_186 : decode cX9_readLeads 186 = .ok (.iastore, 1) := by decide +kernel
theorem dX9_readLeads_187 : decode cX9_readLeads 187 = .ok (.aload_n 0, 1) := by decide +kernel
theorem dX9_readLeads_188 : decode cX9_readLeads 188 = .ok (.getfield 150, 3) := by decide +kernel
theorem dX9_readLeads_191 : decode cX9_readLeads 191 = .ok (.dup, 1) := by decide +kernel
theorem dX9_readLeads_192 : decode cX9_readLeads 192 = .ok (.getfield 305, 3) := by decide +kernel
theorem dX9_readLeads_195 : decode cX9_readLeads 195 = .ok (.iconst 1, 1) := by decide +kernel
theorem dX9_readLeads_196 : decode cX9_readLeads 196 = .ok (.iadd, 1) := by decide +kernel
theorem dX9_readLeads_197 : decode cX9_readLeads 197 = .ok (.putfield 305, 3) := by decide +kernel
theorem dX9_readLeads_200 : decode cX9_readLeads 200 = .ok (.aload_n 0, 1) := by decide +kernel
theorem dX9_readLeads_201 : decode cX9_readLeads 201 = .ok (.bipush 44, 2) := by decide +kernel
theorem dX9_readLeads_203 : decode cX9_readLeads 203 = .ok (.invokevirtual 203, 3) := by decide +kernel
theorem dX9_readLeads_206 : decode cX9_readLeads 206 = .ok (.istore_n 2, 1) := by decide +kernel
theorem dX9_readLeads_207 : decode cX9_readLeads 207 = .ok (.goto (-75), 3) := by decide +kernel
theorem dX9_readLeads_210 : decode cX9_readLeads 210 = .ok (.aload_n 0, 1) := by decide +kernel
theorem dX9_readLeads_211 : decode cX9_readLeads 211 = .ok (.getfield 82, 3) := by decide +kernel
theorem dX9_readLeads_214 : decode cX9_readLeads 214 = .ok (.iconst 5, 1) := by decide +kernel
theorem dX9_readLeads_215 : decode cX9_readLeads 215 = .ok (.if_icmp .eq 11, 3) := by decide +kernel
theorem dX9_readLeads_218 : decode cX9_readLeads 218 = .ok (.aload_n 0, 1) := by decide +kernel
theorem dX9_readLeads_219 : decode cX9_readLeads 219 = .ok (.getfield 150, 3) := by decide +kernel
theorem dX9_readLeads_222 : decode cX9_readLeads 222 = .ok (.iload_n 1, 1) := by decide +kernel
theorem dX9_readLeads_223 : decode cX9_readLeads 223 = .ok (.putfield 209, 3) := by decide +kernel
theorem dX9_readLeads_226 : decode cX9_readLeads 226 = .ok (.return_, 1) := by decide +kernel
theorem dX9_readTable_0 : decode cX9_readTable 0 = .ok (.aload_n 0, 1) := by decide +kernel
theorem dX9_readTable_1 : decode cX9_readTable 1 = .ok (.iconst 0, 1) := by decide +kernel
theorem dX9_readTable_2 : decode cX9_readTable 2 = .ok (.aload_n 0, 1) := by decide +kernel
theorem dX9_readTable_3 : decode cX9_readTable 3 = .ok (.getfield 150, 3) := by decide +kernel
theorem dX9_readTable_6 : decode cX9_readTable 6 = .ok (.getfield 311, 3) := by decide +kernel
theorem dX9_readTable_9 : decode cX9_readTable 9 = .ok (.iconst 4, 1) := by decide +kernel
theorem dX9_readTable_10 : decode cX9_readTable 10 = .ok (.if_icmp .ne 7, 3) := by decide +kernel
theorem dX9_readTable_13 : decode cX9_readTable 13 = .ok (.iconst 1, 1) := by decide +kernel
theorem dX9_readTable_14 : decode cX9_readTable 14 = .ok (.goto 4, 3) := by decide +kernel
theorem dX9_readTable_17 : decode cX9_readTable 17 = .ok (.iconst 0, 1) := by decide +kernel
theorem dX9_readTable_18 : decode cX9_readTable 18 = .ok (.aload_n 0, 1) := by decide +kernel
theorem dX9_readTable_19 : decode cX9_readTable 19 = .ok (.getfield 150, 3) := by decide +kernel
theorem dX9_readTable_22 : decode cX9_readTable 22 = .ok (.getfield 268, 3) := by decide +kernel
theorem dX9_readTable_25 : decode cX9_readTable 25 = .ok (.aload_n 0, 1) := by decide +kernel
theorem dX9_readTable_26 : decode cX9_readTable 26 = .ok (.getfield 150, 3) := by decide +kernel
theorem dX9_readTable_29 : decode cX9_readTable 29 = .ok (.getfield 161, 3) := by decide +kernel
theorem dX9_readTable_32 : decode cX9_readTable 32 = .ok (.if_icmp .lt 15, 3) := by decide +kernel
theorem dX9_readTable_35 : decode cX9_readTable 35 = .ok (.aload_n 0, 1) := by decide +kernel
theorem dX9_readTable_36 : decode cX9_readTable 36 = .ok (.getfield 150, 3) := by decide +kernel
theorem dX9_readTable_39 : decode cX9_readTable 39 = .ok (.getfield 212, 3) := by decide +kernel
theorem dX9_readTable_42 : decode cX9_readTable 42 = .ok (.bipush (-2), 2) := by decide +kernel
theorem dX9_readTable_44 : decode cX9_readTable 44 = .ok (.if_icmp .eq 7, 3) := by decide +kernel
theorem dX9_readTable_47 : decode cX9_readTable 47 = .ok (.iconst 1, 1) := by decide +kernel
theorem dX9_readTable_48 : decode cX9_readTable 48 = .ok (.goto 4, 3) := by decide +kernel
theorem dX9_readTable_51 : decode cX9_readTable 51 = .ok (.iconst 0, 1) := by decide +kernel
theorem dX9_readTable_52 : decode cX9_readTable 52 = .ok (.invokevirtual 271, 3) := by decide +kernel
theorem dX9_readTable_55 : decode cX9_readTable 55 = .ok (.aload_n 0, 1) := by decide +kernel
theorem dX9_readTable_56 : decode cX9_readTable 56 = .ok (.invokevirtual 314, 3) := by decide +kernel
theorem dX9_readTable_59 : decode cX9_readTable 59 = .ok (.ifCond .ne 8, 3) := by decide +kernel
theorem dX9_readTable_62 : decode cX9_readTable 62 = .ok (.aload_n 0, 1) := by decide +kernel
theorem dX9_readTable_63 : decode cX9_readTable 63 = .ok (.iconst 1, 1) := by decide +kernel
theorem dX9_readTable_64 : decode cX9_readTable 64 = .ok (.invokevirtual 131, 3) := by decide +kernel
theorem dX9_readTable_67 : decode cX9_readTable 67 = .ok (.iconst 0, 1) := by decide +kernel
theorem dX9_readTable_68 : decode cX9_readTable 68 = .ok (.istore_n 1, 1) := by decide +kernel
theorem dX9_readTable_69 : decode cX9_readTable 69 = .ok (.iload_n 1, 1) := by decide +kernel
theorem dX9_readTable_70 : decode cX9_readTable 70 = .ok (.aload_n 0, 1) := by decide +kernel
theorem dX9_readTable_71 : decode cX9_readTable 71 = .ok (.getfield 150, 3) := by decide +kernel
theorem dX9_readTable_74 : decode cX9_readTable 74 = .ok (.getfield 311, 3) := by decide +kernel
theorem dX9_readTable_77 : decode cX9_readTable 77 = .ok (.if_icmp .ge 39, 3) := by decide +kernel
theorem dX9_readTable_80 : decode cX9_readTable 80 = .ok (.aload_n 0, 1) := by decide +kernel
theorem dX9_readTable_81 : decode cX9_readTable 81 = .ok (.getfield 82, 3) := by decide +kernel
theorem dX9_readTable_84 : decode cX9_readTable 84 = .ok (.iconst 5, 1) := by decide +kernel
theorem dX9_readTable_85 : decode cX9_readTable 85 = .ok (.if_icmp .eq 25, 3) := by decide +kernel
theorem dX9_readTable_88 : decode cX9_readTable 88 = .ok (.aload_n 0, 1) := by decide +kernel
theorem dX9_readTable_89 : decode cX9_readTable 89 = .ok (.getfield 150, 3) := by decide +kernel
theorem dX9_readTable_92 : decode cX9_readTable 92 = .ok (.getfield 318, 3) := by decide +kernel
theorem dX9_readTable_95 : decode cX9_readTable 95 = .ok (.iload_n 1, 1) := by decide +kernel
theorem dX9_readTable_96 : decode cX9_readTable 96 = .ok (.laload, 1) := by decide +kernel
theorem dX9_readTable_97 : decode cX9_readTable 97 = .ok (.aload_n 0, 1) := by decide +kernel
theorem dX9_readTable_98 : decode cX9_readTable 98 = .ok (.getfield 101, 3) := by decide +kernel
theorem dX9_readTable_101 : decode cX9_readTable 101 = .ok (.lcmp, 1) := by decide +kernel
theorem dX9_readTable_102 : decode cX9_readTable 102 = .ok (.ifCond .ne 8, 3) := by decide +kernel
theorem dX9_readTable_105 : decode cX9_readTable 105 = .ok (.aload_n 0, 1) := by decide +kernel
theorem dX9_readTable_106 : decode cX9_readTable 106 = .ok (.iconst 3, 1) := by decide +kernel
theorem dX9_readTable_107 : decode cX9_readTable 107 = .ok (.invokevirtual 131, 3) := by decide +kernel
theorem dX9_readTable_110 : decode cX9_readTable 110 = .ok (.iinc 1 1, 3) := by decide +kernel
theorem dX9_readTable_113 : decode cX9_readTable 113 = .ok (.goto (-44), 3) := by decide +kernel
theorem dX9_readTable_116 : decode cX9_readTable 116 = .ok (.aload_n 0, 1) := by decide +kernel
theorem dX9_readTable_117 : decode cX9_readTable 117 = .ok (.getfield 101, 3) := by decide +kernel
theorem dX9_readTable_120 : decode cX9_readTable 120 = .ok (.lstore_n 1, 1) := by decide +kernel
theorem dX9_readTable_121 : decode cX9_readTable 121 = .ok (.aload_n 0, 1) := by decide +kernel
theorem dX9_readTable_122 : decode cX9_readTable 122 = .ok (.invokevirtual 124, 3) := by decide +kernel
theorem dX9_readTable_125 : decode cX9_readTable 125 = .ok (.aload_n 0, 1) := by decide +kernel
theorem dX9_readTable_126 : decode cX9_readTable 126 = .ok (.ldc_w 322, 3) := by decide +kernel
theorem dX9_readTable_129 : decode cX9_readTable 129 = .ok (.invokevirtual 143, 3) := by decide +kernel
theorem dX9_readTable_132 : decode cX9_readTable 132 = .ok (.aload_n 0, 1) := by decide +kernel
theorem dX9_readTable_133 : decode cX9_readTable 133 = .ok (.invokevirtual 280, 3) := by decide +kernel
theorem dX9_readTable_136 : decode cX9_readTable 136 = .ok (.istore_n 3, 1) := by decide +kernel
theorem dX9_readTable_137 : decode cX9_readTable 137 = .ok (.aload_n 0, 1) := by decide +kernel
theorem dX9_readTable_138 : decode cX9_readTable 138 = .ok (.getfield 82, 3) := by decide +kernel
theorem dX9_readTable_141 : decode cX9_readTable 141 = .ok (.iconst 5, 1) := by decide +kernel
theorem dX9_readTable_142 : decode cX9_readTable 142 = .ok (.if_icmp .eq 21, 3) := by decide +kernel
theorem dX9_readTable_145 : decode cX9_readTable 145 = .ok (.aload_n 0, 1) := by decide +kernel
theorem dX9_readTable_146 : decode cX9_readTable 146 = .ok (.getfield 150, 3) := by decide +kernel
theorem dX9_readTable_149 : decode cX9_readTable 149 = .ok (.getfield 275, 3) := by decide +kernel
theorem dX9_readTable_152 : decode cX9_readTable 152 = .ok (.iload_n 3, 1) := by decide +kernel
theorem dX9_readTable_153 : decode cX9_readTable 153 = .ok (.iaload, 1) := by decide +kernel
theorem dX9_readTable_154 : decode cX9_readTable 154 = .ok (.iconst 3, 1) := by decide +kernel
theorem dX9_readTable_155 : decode cX9_readTable 155 = .ok (.if_icmp .ne 8, 3) := by decide +kernel
theorem dX9_readTable_158 : decode cX9_readTable 158 = .ok (.aload_n 0, 1) := by decide +kernel
theorem dX9_readTable_159 : decode cX9_readTable 159 = .ok (.iconst 3, 1) := by decide +kernel
theorem dX9_readTable_160 : decode cX9_readTable 160 = .ok (.invokevirtual 131, 3) := by decide +kernel
theorem dX9_readTable_163 : decode cX9_readTable 163 = .ok (.aload_n 0, 1) := by decide +kernel
theorem dX9_readTable_164 : decode cX9_readTable 164 = .ok (.getfield 82, 3) := by decide +kernel
theorem dX9_readTable_167 : decode cX9_readTable 167 = .ok (.iconst 5, 1) := by decide +kernel
theorem dX9_readTable_168 : decode cX9_readTable 168 = .ok (.if_icmp .eq 22, 3) := by decide +kernel
theorem dX9_readTable_171 : decode cX9_readTable 171 = .ok (.aload_n 0, 1) := by decide +kernel
theorem dX9_readTable_172 : decode cX9_readTable 172 = .ok (.getfield 150, 3) := by decide +kernel
theorem dX9_readTable_175 : decode cX9_readTable 175 = .ok (.getfield 275, 3) := by decide +kernel
theorem dX9_readTable_178 : decode cX9_readTable 178 = .ok (.iload_n 3, 1) := by decide +kernel
theorem dX9_readTable_179 : decode cX9_readTable 179 = .ok (.iaload, 1) := by decide +kernel
theorem dX9_readTable_180 : decode cX9_readTable 180 = .ok (.iconst 2, 1) := by decide +kernel
theorem dX9_readTable_181 : decode cX9_readTable 181 = .ok (.if_icmp .ne 9, 3) := by decide +kernel
theorem dX9_readTable_184 : decode cX9_readTable 184 = .ok (.aload_n 0, 1) := by decide +kernel
theorem dX9_readTable_185 : decode cX9_readTable 185 = .ok (.bipush 7, 2) := by decide +kernel
theorem dX9_readTable_187 : decode cX9_readTable 187 = .ok (.invokevirtual 131, 3) := by decide +kernel
theorem dX9_readTable_190 : decode cX9_readTable 190 = .ok (.aload_n 0, 1) := by decide +kernel
theorem dX9_readTable_191 : decode cX9_readTable 191 = .ok (.invokevirtual 124, 3) := by decide +kernel
theorem dX9_readTable_194 : decode cX9_readTable 194 = .ok (.aload_n 0, 1) := by decide +kernel
theorem dX9_readTable_195 : decode cX9_readTable 195 = .ok (.ldc_w 324, 3) := by decide +kernel
theorem dX9_readTable_198 : decode cX9_readTable 198 = .ok (.iconst 1, 1) := by decide +kernel
theorem dX9_readTable_199 : decode cX9_readTable 199 = .ok (.bipush 9, 2) := by decide +kernel
theorem dX9_readTable_201 : decode cX9_readTable 201 = .ok (.invokevirtual 246, 3) := by decide +kernel
theorem dX9_readTable_204 : decode cX9_readTable 204 = .ok (.istore 4, 2) := by decide +kernel
theorem dX9_readTable_206 : decode cX9_readTable 206 = .ok (.aload_n 0, 1) := by decide +kernel
theorem dX9_readTable_207 : decode cX9_readTable 207 = .ok (.invokevirtual 326, 3) := by decide +kernel
theorem dX9_readTable_210 : decode cX9_readTable 210 = .ok (.istore 5, 2) := by decide +kernel
theorem dX9_readTable_212 : decode cX9_readTable 212 = .ok (.aload_n 0, 1) := by decide +kernel
theorem dX9_readTable_213 : decode cX9_readTable 213 = .ok (.ldc_w 329, 3) := by decide +kernel
theorem dX9_readTable_216 : decode cX9_readTable 216 = .ok (.iconst 1, 1) := by decide +kernel
theorem dX9_readTable_217 : decode cX9_readTable 217 = .ok (.bipush 9, 2) := by decide +kernel
theorem dX9_readTable_219 : decode cX9_readTable 219 = .ok (.invokevirtual 246, 3) := by decide +kernel
theorem dX9_readTable_222 : decode cX9_readTable 222 = .ok (.istore 6, 2) := by decide +kernel
theorem dX9_readTable_224 : decode cX9_readTable 224 = .ok (.aload_n 0, 1) := by decide +kernel
theorem dX9_readTable_225 : decode cX9_readTable 225 = .ok (.ldc_w 331, 3) := by decide +kernel
theorem dX9_readTable_228 : decode cX9_readTable 228 = .ok (.iconst 0, 1) := by decide +kernel
theorem dX9_readTable_229 : decode cX9_readTable 229 = .ok (.bipush 9, 2) := by decide +kernel
theorem dX9_readTable_231 : decode cX9_readTable 231 = .ok (.invokevirtual 246, 3) := by decide +kernel
theorem dX9_readTable_234 : decode cX9_readTable 234 = .ok (.istore 7, 2) := by decide +kernel
theorem dX9_readTable_236 : decode cX9_readTable 236 = .ok (.aload_n 0, 1) := by decide +kernel
theorem dX9_readTable_237 : decode cX9_readTable 237 = .ok (.ldc_w 333, 3) := by decide +kernel
theorem dX9_readTable_240 : decode cX9_readTable 240 = .ok (.iconst 0, 1) := by decide +kernel
theorem dX9_readTable_241 : decode cX9_readTable 241 = .ok (.bipush 100, 2) := by decide +kernel
theorem dX9_readTable_243 : decode cX9_readTable 243 = .ok (.invokevirtual 246, 3) := by decide +kernel
theorem dX9_readTable_246 : decode cX9_readTable 246 = .ok (.istore 8, 2) := by decide +kernel
theorem dX9_readTable_248 : decode cX9_readTable 248 = .ok (.aload_n 0, 1) := by decide +kernel
theorem dX9_readTable_249 : decode cX9_readTable 249 = .ok (.getfield 82, 3) := by decide +kernel
theorem dX9_readTable_252 : decode cX9_readTable 252 = .ok (.iconst 5, 1) := by decide +kernel
theorem dX9_readTable_253 : decode cX9_readTable 253 = .ok (.if_icmp .ne 4, 3) := by decide +kernel
theorem dX9_readTable_256 : decode cX9_readTable 256 = .ok (.return_, 1) := by decide +kernel
theorem dX9_readTable_257 : decode cX9_readTable 257 = .ok (.aload_n 0, 1) := by decide +kernel
theorem dX9_readTable_258 : decode cX9_readTable 258 = .ok (.getfield 150, 3) := by decide +kernel
theorem dX9_readTable_261 : decode cX9_readTable 261 = .ok (.getfield 311, 3) := by decide +kernel
theorem dX9_readTable_264 : decode cX9_readTable 264 = .ok (.istore 9, 2) := by decide +kernel
theorem dX9_readTable_266 : decode cX9_readTable 266 = .ok (.aload_n 0, 1) := by decide +kernel
theorem dX9_readTable_267 : decode cX9_readTable 267 = .ok (.getfield 150, 3) := by decide +kernel
theorem dX9_readTable_270 : decode cX9_readTable 270 = .ok (.getfield 318, 3) := by decide +kernel
theorem dX9_readTable_273 : decode cX9_readTable 273 = .ok (.iload 9, 2) := by decide +kernel
theorem dX9_readTable_275 : decode cX9_readTable 275 = .ok (.lload_n 1, 1) := by decide +kernel
theorem dX9_readTable_276 : decode cX9_readTable 276 = .ok (.lastore, 1) := by decide +kernel
theorem dX9_readTable_277 : decode cX9_readTable 277 = .ok (.aload_n 0, 1) := by decide +kernel
theorem dX9_readTable_278 : decode cX9_readTable 278 = .ok (.getfield 150, 3) := by decide +kernel
theorem dX9_readTable_281 : decode cX9_readTable 281 = .ok (.getfield 335, 3) := by decide +kernel
theorem dX9_readTable_284 : decode cX9_readTable 284 = .ok (.iload 9, 2) := by decide +kernel
theorem dX9_readTable_286 : decode cX9_readTable 286 = .ok (.iload_n 3, 1) := by decide +kernel
theorem dX9_readTable_287 : decode cX9_readTable 287 = .ok (.iastore, 1) := by decide +kernel
theorem dX9_readTable_288 : decode cX9_readTable 288 = .ok (.aload_n 0, 1) := by decide +kernel
theorem dX9_readTable_289 : decode cX9_readTable 289 = .ok (.getfield 150, 3) := by decide +kernel
theorem dX9_readTable_292 : decode cX9_readTable 292 = .ok (.getfield 338, 3) := by decide +kernel
theorem dX9_readTable_295 : decode cX9_readTable 295 = .ok (.iload 9, 2) := by decide +kernel
theorem dX9_readTable_297 : decode cX9_readTable 297 = .ok (.iload 4, 2) := by decide +kernel
theorem dX9_readTable_299 : decode cX9_readTable 299 = .ok (.iastore, 1) := by decide +kernel
theorem dX9_readTable_300 : decode cX9_readTable 300 = .ok (.aload_n 0, 1) := by decide +kernel
theorem dX9_readTable_301 : decode cX9_readTable 301 = .ok (.getfield 150, 3) := by decide +kernel
theorem dX9_readTable_304 : decode cX9_readTable 304 = .ok (.getfield 340, 3) := by decide +kernel
theorem dX9_readTable_307 : decode cX9_readTable 307 = .ok (.iload 9, 2) := by decide +kernel
theorem dX9_readTable_309 : decode cX9_readTable 309 = .ok (.iload 5, 2) := by decide +kernel
theorem dX9_readTable_311 : decode cX9_readTable 311 = .ok (.iastore, 1) := by decide +kernel
theorem dX9_readTable_312 : decode cX9_readTable 312 = .ok (.aload_n 0, 1) := by decide +kernel
theorem dX9_readTable_313 : decode cX9_readTable 313 = .ok (.getfield 150, 3) := by decide +kernel
theorem dX9_readTable_316 : decode cX9_readTable 316 = .ok (.getfield 343, 3) := by decide +kernel
theorem dX9_readTable_319 : decode cX9_readTable 319 = .ok (.iload 9, 2) := by decide +kernel
theorem dX9_readTable_321 : decode cX9_readTable 321 = .ok (.iload 6, 2) := by decide +kernel
theorem dX9_readTable_323 : decode cX9_readTable 323 = .ok (.iastore, 1) := by decide +kernel
theorem dX9_readTable_324 : decode cX9_readTable 324 = .ok (.aload_n 0, 1) := by decide +kernel
theorem dX9_readTable_325 : decode cX9_readTable 325 = .ok (.getfield 150, 3) := by decide +kernel
theorem dX9_readTable_328 : decode cX9_readTable 328 = .ok (.getfield 346, 3) := by decide +kernel
theorem dX9_readTable_331 : decode cX9_readTable 331 = .ok (.iload 9, 2) := by decide +kernel
theorem dX9_readTable_333 : decode cX9_readTable 333 = .ok (.iload 7, 2) := by decide +kernel
theorem dX9_readTable_335 : decode cX9_readTable 335 = .ok (.iastore, 1) := by decide +kernel
theorem dX9_readTable_336 : decode cX9_readTable 336 = .ok (.aload_n 0, 1) := by decide +kernel
theorem dX9_readTable_337 : decode cX9_readTable 337 = .ok (.getfield 150, 3) := by decide +kernel
theorem dX9_readTable_340 : decode cX9_readTable 340 = .ok (.getfield 349, 3) := by decide +kernel
theorem dX9_readTable_343 : decode cX9_readTable 343 = .ok (.iload 9, 2) := by decide +kernel
theorem dX9_readTable_345 : decode cX9_readTable 345 = .ok (.iload 8, 2) := by decide +kernel
theorem dX9_readTable_347 : decode cX9_readTable 347 = .ok (.iastore, 1) := by decide +kernel
theorem dX9_readTable_348 : decode cX9_readTable 348 = .ok (.aload_n 0, 1) := by decide +kernel
theorem dX9_readTable_349 : decode cX9_readTable 349 = .ok (.getfield 150, 3) := by decide +kernel
theorem dX9_readTable_352 : decode cX9_readTable 352 = .ok (.getfield 275, 3) := by decide +kernel
theorem dX9_readTable_355 : decode cX9_readTable 355 = .ok (.iload_n 3, 1) := by decide +kernel
theorem dX9_readTable_356 : decode cX9_readTable 356 = .ok (.iconst 3, 1) := by decide +kernel
theorem dX9_readTable_357 : decode cX9_readTable 357 = .ok (.iastore, 1) := by decide +kernel
theorem dX9_readTable_358 : decode cX9_readTable 358 = .ok (.aload_n 0, 1) := by decide +kernel
theorem dX9_readTable_359 : decode cX9_readTable 359 = .ok (.getfield 150, 3) := by decide +kernel
theorem dX9_readTable_362 : decode cX9_readTable 362 = .ok (.dup, 1) := by decide +kernel
theorem dX9_readTable_363 : decode cX9_readTable 363 = .ok (.getfield 311, 3) := by decide +kernel
theorem dX9_readTable_366 : decode cX9_readTable 366 = .ok (.iconst 1, 1) := by decide +kernel
theorem dX9_readTable_367 : decode cX9_readTable 367 = .ok (.iadd, 1) := by decide +kernel
theorem dX9_readTable_368 : decode cX9_readTable 368 = .ok (.putfield 311, 3) := by decide +kernel
theorem dX9_readTable_371 : decode cX9_readTable 371 = .ok (.return_, 1) := by decide +kernel
theorem dX9_readDancer_0 : decode cX9_readDancer 0 = .ok (.aload_n 0, 1) := by decide +kernel
theorem dX9_readDancer_1 : decode cX9_readDancer 1 = .ok (.iconst 0, 1) := by decide +kernel
theorem dX9_readDancer_2 : decode cX9_readDancer 2 = .ok (.aload_n 0, 1) := by decide +kernel
theorem dX9_readDancer_3 : decode cX9_readDancer 3 = .ok (.getfield 150, 3) := by decide +kernel
theorem dX9_readDancer_6 : decode cX9_readDancer 6 = .ok (.getfield 351, 3) := by decide +kernel
theorem dX9_readDancer_9 : decode cX9_readDancer 9 = .ok (.bipush 8, 2) := by decide +kernel
theorem dX9_readDancer_11 : decode cX9_readDancer 11 = .ok (.if_icmp .ne 7, 3) := by decide +kernel
theorem dX9_readDancer_14 : decode cX9_readDancer 14 = .ok (.iconst 1, 1) := by decide +kernel
theorem dX9_readDancer_15 : decode cX9_readDancer 15 = .ok (.goto 4, 3) := by decide +kernel
theorem dX9_readDancer_18 : decode cX9_readDancer 18 = .ok (.iconst 0, 1) := by decide +kernel
theorem dX9_readDancer_19 : decode cX9_readDancer 19 = .ok (.aload_n 0, 1) := by decide +kernel
theorem dX9_readDancer_20 : decode cX9_readDancer 20 = .ok (.getfield 150, 3) := by decide +kernel
theorem dX9_readDancer_23 : decode cX9_readDancer 23 = .ok (.getfield 212, 3) := by decide +kernel
theorem dX9_readDancer_26 : decode cX9_readDancer 26 = .ok (.bipush (-2), 2) := by decide +kernel
theorem dX9_readDancer_28 : decode cX9_readDancer 28 = .ok (.if_icmp .eq 7, 3) := by decide +kernel
theorem dX9_readDancer_31 : decode cX9_readDancer 31 = .ok (.iconst 1, 1) := by decide +kernel
theorem dX9_readDancer_32 : decode cX9_readDancer 32 = .ok (.goto 4, 3) := by decide +kernel
theorem dX9_readDancer_35 : decode cX9_readDancer 35 = .ok (.iconst 0, 1) := by decide +kernel
theorem dX9_readDancer_36 : decode cX9_readDancer 36 = .ok (.invokevirtual 271, 3) := by decide +kernel
theorem dX9_readDancer_39 : decode cX9_readDancer 39 = .ok (.aload_n 0, 1) := by decide +kernel
theorem dX9_readDancer_40 : decode cX9_readDancer 40 = .ok (.invokevirtual 326, 3) := by decide +kernel
theorem dX9_readDancer_43 : decode cX9_readDancer 43 = .ok (.istore_n 1, 1) := by decide +kernel
theorem dX9_readDancer_44 : decode cX9_readDancer 44 = .ok (.aload_n 0, 1) := by decide +kernel
theorem dX9_readDancer_45 : decode cX9_readDancer 45 = .ok (.ldc_w 329, 3) := by decide +kernel
theorem dX9_readDancer_48 : decode cX9_readDancer 48 = .ok (.iconst 1, 1) := by decide +kernel
theorem dX9_readDancer_49 : decode cX9_readDancer 49 = .ok (.bipush 9, 2) := by decide +kernel
theorem dX9_readDancer_51 : decode cX9_readDancer 51 = .ok (.invokevirtual 246, 3) := by decide +kernel
theorem dX9_readDancer_54 : decode cX9_readDancer 54 = .ok (.istore_n 2, 1) := by decide +kernel
theorem dX9_readDancer_55 : decode cX9_readDancer 55 = .ok (.aload_n 0, 1) := by decide +kernel
theorem dX9_readDancer_56 : decode cX9_readDancer 56 = .ok (.ldc_w 331, 3) := by decide +kernel
theorem dX9_readDancer_59 : decode cX9_readDancer 59 = .ok (.iconst 0, 1) := by decide +kernel
theorem dX9_readDancer_60 : decode cX9_readDancer 60 = .ok (.bipush 9, 2) := by decide +kernel
theorem dX9_readDancer_62 : decode cX9_readDancer 62 = .ok (.invokevirtual 246, 3) := by decide +kernel
theorem dX9_readDancer_65 : decode cX9_readDancer 65 = .ok (.istore_n 3, 1) := by decide +kernel
theorem dX9_readDancer_66 : decode cX9_readDancer 66 = .ok (.aload_n 0, 1) := by decide +kernel
theorem dX9_readDancer_67 : decode cX9_readDancer 67 = .ok (.getfield 82, 3) := by decide +kernel
theorem dX9_readDancer_70 : decode cX9_readDancer 70 = .ok (.iconst 5, 1) := by decide +kernel
theorem dX9_readDancer_71 : decode cX9_readDancer 71 = .ok (.if_icmp .ne 4, 3) := by decide +kernel
theorem dX9_readDancer_74 : decode cX9_readDancer 74 = .ok (.return_, 1) := by decide +kernel
theorem dX9_readDancer_75 : decode cX9_readDancer 75 = .ok (.aload_n 0, 1) := by decide +kernel
theorem dX9_readDancer_76 : decode cX9_readDancer 76 = .ok (.getfield 150, 3) := by decide +kernel
theorem dX9_readDancer_79 : decode cX9_readDancer 79 = .ok (.getfield 354, 3) := by decide +kernel
theorem dX9_readDancer_82 : decode cX9_readDancer 82 = .ok (.aload_n 0, 1) := by decide +kernel
theorem dX9_readDancer_83 : decode cX9_readDancer 83 = .ok (.getfield 150, 3) := by decide +kernel
theorem dX9_readDancer_86 : decode cX9_readDancer 86 = .ok (.getfield 351, 3) := by decide +kernel
theorem dX9_readDancer_89 : decode cX9_readDancer 89 = .ok (.iload_n 1, 1) := by decide +kernel
theorem dX9_readDancer_90 : decode cX9_readDancer 90 = .ok (.iastore, 1) := by decide +kernel
theorem dX9_readDancer_91 : decode cX9_readDancer 91 = .ok (.aload_n 0, 1) := by decide +kernel
theorem dX9_readDancer_92 : decode cX9_readDancer 92 = .ok (.getfield 150, 3) := by decide +kernel
theorem dX9_readDancer_95 : decode cX9_readDancer 95 = .ok (.getfield 357, 3) := by decide +kernel
theorem dX9_readDancer_98 : decode cX9_readDancer 98 = .ok (.aload_n 0, 1) := by decide +kernel
theorem dX9_readDancer_99 : decode cX9_readDancer 99 = .ok (.getfield 150, 3) := by decide +kernel
theorem dX9_readDancer_102 : decode cX9_readDancer 102 = .ok (.getfield 351, 3) := by decide +kernel
theorem dX9_readDancer_105 : decode cX9_readDancer 105 = .ok (.iload_n 2, 1) := by decide +kernel
theorem dX9_readDancer_106 : decode cX9_readDancer 106 = .ok (.iastore, 1) := by decide +kernel
theorem dX9_readDancer_107 : decode cX9_readDancer 107 = .ok (.aload_n 0, 1) := by decide +kernel
theorem dX9_readDancer_108 : decode cX9_readDancer 108 = .ok (.getfield 150, 3) := by decide +kernel
theorem dX9_readDancer_111 : decode cX9_readDancer 111 = .ok (.getfield 359, 3) := by decide +kernel
theorem dX9_readDancer_114 : decode cX9_readDancer 114 = .ok (.aload_n 0, 1) := by decide +kernel
theorem dX9_readDancer_115 : decode cX9_readDancer 115 = .ok (.getfield 150, 3) := by decide +kernel
theorem dX9_readDancer_118 : decode cX9_readDancer 118 = .ok (.getfield 351, 3) := by decide +kernel
theorem dX9_readDancer_121 : decode cX9_readDancer 121 = .ok (.iload_n 3, 1) := by decide +kernel
theorem dX9_readDancer_122 : decode cX9_readDancer 122 = .ok (.iastore, 1) := by decide +kernel
theorem dX9_readDancer_123 : decode cX9_readDancer 123 = .ok (.aload_n 0, 1) := by decide +kernel
theorem dX9_readDancer_124 : decode cX9_readDancer 124 = .ok (.getfield 150, 3) := by decide +kernel
theorem dX9_readDancer_127 : decode cX9_readDancer 127 = .ok (.dup, 1) := by decide +kernel
theorem dX9_readDancer_128 : decode cX9_readDancer 128 = .ok (.getfield 351, 3) := by decide +kernel
theorem dX9_readDancer_131 : decode cX9_readDancer 131 = .ok (.iconst 1, 1) := by decide +kernel
theorem dX9_readDancer_132 : decode cX9_readDancer 132 = .ok (.iadd, 1) := by decide +kernel
theorem dX9_readDancer_133 : decode cX9_readDancer 133 = .ok (.putfield 351, 3) := by decide +kernel
theorem dX9_readDancer_136 : decode cX9_readDancer 136 = .ok (.return_, 1) := by decide +kernel
theorem dX9_readSnake_0 : decode cX9_readSnake 0 = .ok (.aload_n 0, 1) := by decide +kernel
theorem dX9_readSnake_1 : decode cX9_readSnake 1 = .ok (.aload_n 0, 1) := by decide +kernel
theorem dX9_readSnake_2 : decode cX9_readSnake 2 = .ok (.getfield 150, 3) := by decide +kernel
theorem dX9_readSnake_5 : decode cX9_readSnake 5 = .ok (.getfield 212, 3) := by decide +kernel
theorem dX9_readSnake_8 : decode cX9_readSnake 8 = .ok (.bipush (-2), 2) := by decide +kernel
theorem dX9_readSnake_10 : decode cX9_readSnake 10 = .ok (.if_icmp .eq 7, 3) := by decide +kernel
theorem dX9_readSnake_13 : decode cX9_readSnake 13 = .ok (.iconst 1, 1) := by decide +kernel
theorem dX9_readSnake_14 : decode cX9_readSnake 14 = .ok (.goto 4, 3) := by decide +kernel
theorem dX9_readSnake_17 : decode cX9_readSnake 17 = .ok (.iconst 0, 1) := by decide +kernel
theorem dX9_readSnake_18 : decode cX9_readSnake 18 = .ok (.iconst 0, 1) := by decide +kernel
theorem dX9_readSnake_19 : decode cX9_readSnake 19 = .ok (.aload_n 0, 1) := by decide +kernel
theorem dX9_readSnake_20 : decode cX9_readSnake 20 = .ok (.getfield 150, 3) := by decide +kernel
theorem dX9_readSnake_23 : decode cX9_readSnake 23 = .ok (.getfield 268, 3) := by decide +kernel
theorem dX9_readSnake_26 : decode cX9_readSnake 26 = .ok (.aload_n 0, 1) := by decide +kernel
theorem dX9_readSnake_27 : decode cX9_readSnake 27 = .ok (.getfield 150, 3) := by decide +kernel
theorem dX9_readSnake_30 : decode cX9_readSnake 30 = .ok (.getfield 161, 3) := by decide +kernel
theorem dX9_readSnake_33 : decode cX9_readSnake 33 = .ok (.if_icmp .lt 13, 3) := by decide +kernel
theorem dX9_readSnake_36 : decode cX9_readSnake 36 = .ok (.aload_n 0, 1) := by decide +kernel
theorem dX9_readSnake_37 : decode cX9_readSnake 37 = .ok (.getfield 150, 3) := by decide +kernel
theorem dX9_readSnake_40 : decode cX9_readSnake 40 = .ok (.getfield 351, 3) := by decide +kernel
theorem dX9_readSnake_43 : decode cX9_readSnake 43 = .ok (.ifCond .ne 7, 3) := by decide +kernel
theorem dX9_readSnake_46 : decode cX9_readSnake 46 = .ok (.iconst 1, 1) := by decide +kernel
theorem dX9_readSnake_47 : decode cX9_readSnake 47 = .ok (.goto 4, 3) := by decide +kernel
theorem dX9_readSnake_50 : decode cX9_readSnake 50 = .ok (.iconst 0, 1) := by decide +kernel
theorem dX9_readSnake_51 : decode cX9_readSnake 51 = .ok (.invokevirtual 271, 3) := by decide +kernel
theorem dX9_readSnake_54 : decode cX9_readSnake 54 = .ok (.aload_n 0, 1) := by decide +kernel
theorem dX9_readSnake_55 : decode cX9_readSnake 55 = .ok (.invokevirtual 280, 3) := by decide +kernel
theorem dX9_readSnake_58 : decode cX9_readSnake 58 = .ok (.istore_n 1, 1) := by decide +kernel
theorem dX9_readSnake_59 : decode cX9_readSnake 59 = .ok (.aload_n 0, 1) := by decide +kernel
theorem dX9_readSnake_60 : decode cX9_readSnake 60 = .ok (.getfield 82, 3) := by decide +kernel
theorem dX9_readSnake_63 : decode cX9_readSnake 63 = .ok (.iconst 5, 1) := by decide +kernel
theorem dX9_readSnake_64 : decode cX9_readSnake 64 = .ok (.if_icmp .eq 20, 3) := by decide +kernel
theorem dX9_readSnake_67 : decode cX9_readSnake 67 = .ok (.aload_n 0, 1) := by decide +kernel
theorem dX9_readSnake_68 : decode cX9_readSnake 68 = .ok (.getfield 150, 3) := by decide +kernel
theorem dX9_readSnake_71 : decode cX9_readSnake 71 = .ok (.iload_n 1, 1) := by decide +kernel
theorem dX9_readSnake_72 : decode cX9_readSnake 72 = .ok (.invokevirtual 361, 3) := by decide +kernel
theorem dX9_readSnake_75 : decode cX9_readSnake 75 = .ok (.ifCond .ne 9, 3) := by decide +kernel
theorem dX9_readSnake_78 : decode cX9_readSnake 78 = .ok (.aload_n 0, 1) := by decide +kernel
theorem dX9_readSnake_79 : decode cX9_readSnake 79 = .ok (.bipush 7, 2) := by decide +kernel
theorem dX9_readSnake_81 : decode cX9_readSnake 81 = .ok (.invokevirtual 131, 3) := by decide +kernel
theorem dX9_readSnake_84 : decode cX9_readSnake 84 = .ok (.aload_n 0, 1) := by decide +kernel
theorem dX9_readSnake_85 : decode cX9_readSnake 85 = .ok (.invokevirtual 124, 3) := by decide +kernel
theorem dX9_readSnake_88 : decode cX9_readSnake 88 = .ok (.aload_n 0, 1) := by decide +kernel
theorem dX9_readSnake_89 : decode cX9_readSnake 89 = .ok (.invokevirtual 302, 3) := by decide +kernel
theorem dX9_readSnake_92 : decode cX9_readSnake 92 = .ok (.istore_n 2, 1) := by decide +kernel
theorem dX9_readSnake_93 : decode cX9_readSnake 93 = .ok (.iload_n 1, 1) := by decide +kernel
theorem dX9_readSnake_94 : decode cX9_readSnake 94 = .ok (.istore_n 3, 1) := by decide +kernel
theorem dX9_readSnake_95 : decode cX9_readSnake 95 = .ok (.iconst 1, 1) := by decide +kernel
theorem dX9_readSnake_96 : decode cX9_readSnake 96 = .ok (.istore 4, 2) := by decide +kernel
theorem dX9_readSnake_98 : decode cX9_readSnake 98 = .ok (.iload 4, 2) := by decide +kernel
theorem dX9_readSnake_100 : decode cX9_readSnake 100 = .ok (.aload_n 0, 1) := by decide +kernel
theorem dX9_readSnake_101 : decode cX9_readSnake 101 = .ok (.getfield 150, 3) := by decide +kernel
theorem dX9_readSnake_104 : decode cX9_readSnake 104 = .ok (.getfield 351, 3) := by decide +kernel
theorem dX9_readSnake_107 : decode cX9_readSnake 107 = .ok (.if_icmp .ge 46, 3) := by decide +kernel
theorem dX9_readSnake_110 : decode cX9_readSnake 110 = .ok (.aload_n 0, 1) := by decide +kernel
theorem dX9_readSnake_111 : decode cX9_readSnake 111 = .ok (.getfield 82, 3) := by decide +kernel
theorem dX9_readSnake_114 : decode cX9_readSnake 114 = .ok (.iconst 5, 1) := by decide +kernel
theorem dX9_readSnake_115 : decode cX9_readSnake 115 = .ok (.if_icmp .eq 38, 3) := by decide +kernel
theorem dX9_readSnake_118 : decode cX9_readSnake 118 = .ok (.aload_n 0, 1) := by decide +kernel
theorem dX9_readSnake_119 : decode cX9_readSnake 119 = .ok (.getfield 150, 3) := by decide +kernel
theorem dX9_readSnake_122 : decode cX9_readSnake 122 = .ok (.iload_n 3, 1) := by decide +kernel
theorem dX9_readSnake_123 : decode cX9_readSnake 123 = .ok (.iload_n 2, 1) := by decide +kernel
theorem dX9_readSnake_124 : decode cX9_readSnake 124 = .ok (.iconst 2, 1) := by decide +kernel
theorem dX9_readSnake_125 : decode cX9_readSnake 125 = .ok (.iadd, 1) := by decide +kernel
theorem dX9_readSnake_126 : decode cX9_readSnake 126 = .ok (.invokevirtual 364, 3) := by decide +kernel
theorem dX9_readSnake_129 : decode cX9_readSnake 129 = .ok (.istore_n 3, 1) := by decide +kernel
theorem dX9_readSnake_130 : decode cX9_readSnake 130 = .ok (.aload_n 0, 1) := by decide +kernel
theorem dX9_readSnake_131 : decode cX9_readSnake 131 = .ok (.getfield 150, 3) := by decide +kernel
theorem dX9_readSnake_134 : decode cX9_readSnake 134 = .ok (.iload_n 3, 1) := by decide +kernel
theorem dX9_readSnake_135 : decode cX9_readSnake 135 = .ok (.invokevirtual 361, 3) := by decide +kernel
theorem dX9_readSnake_138 : decode cX9_readSnake 138 = .ok (.ifCond .ne 9, 3) := by decide +kernel
theorem dX9_readSnake_141 : decode cX9_readSnake 141 = .ok (.aload_n 0, 1) := by decide +kernel
theorem dX9_readSnake_142 : decode cX9_readSnake 142 = .ok (.bipush 7, 2) := by decide +kernel
theorem dX9_readSnake_144 : decode cX9_readSnake 144 = .ok (.invokevirtual 131, 3) := by decide +kernel
theorem dX9_readSnake_147 : decode cX9_readSnake 147 = .ok (.iinc 4 1, 3) := by decide +kernel
theorem dX9_readSnake_150 : decode cX9_readSnake 150 = .ok (.goto (-52), 3) := by decide +kernel
theorem dX9_readSnake_153 : decode cX9_readSnake 153 = .ok (.aload_n 0, 1) := by decide +kernel
theorem dX9_readSnake_154 : decode cX9_readSnake 154 = .ok (.invokevirtual 124, 3) := by decide +kernel
theorem dX9_readSnake_157 : decode cX9_readSnake 157 = .ok (.aload_n 0, 1) := by decide +kernel
theorem dX9_readSnake_158 : decode cX9_readSnake 158 = .ok (.getfield 82, 3) := by decide +kernel
theorem dX9_readSnake_161 : decode cX9_readSnake 161 = .ok (.iconst 5, 1) := by decide +kernel
theorem dX9_readSnake_162 : decode cX9_readSnake 162 = .ok (.if_icmp .ne 4, 3) := by decide +kernel
theorem dX9_readSnake_165 : decode cX9_readSnake 165 = .ok (.return_, 1) := by decide +kernel
theorem dX9_readSnake_166 : decode cX9_readSnake 166 = .ok (.aload_n 0, 1) := by decide +kernel
theorem dX9_readSnake_167 : decode cX9_readSnake 167 = .ok (.getfield 150, 3) := by decide +kernel
theorem dX9_readSnake_170 : decode cX9_readSnake 170 = .ok (.iload_n 1, 1) := by decide +kernel
theorem dX9_readSnake_171 : decode cX9_readSnake 171 = .ok (.putfield 212, 3) := by decide +kernel
theorem dX9_readSnake_174 : decode cX9_readSnake 174 = .ok (.aload_n 0, 1) := by decide +kernel
theorem dX9_readSnake_175 : decode cX9_readSnake 175 = .ok (.getfield 150, 3) := by decide +kernel
theorem dX9_readSnake_178 : decode cX9_readSnake 178 = .ok (.iload_n 2, 1) := by decide +kernel
theorem dX9_readSnake_179 : decode cX9_readSnake 179 = .ok (.putfield 367, 3) := by decide +kernel
theorem dX9_readSnake_182 : decode cX9_readSnake 182 = .ok (.return_, 1) := by decide +kernel
theorem dX9_readFrame_0 : decode cX9_readFrame 0 = .ok (.aload_n 0, 1) := by decide +kernel
theorem dX9_readFrame_1 : decode cX9_readFrame 1 = .ok (.iconst 0, 1) := by decide +kernel
theorem dX9_readFrame_2 : decode cX9_readFrame 2 = .ok (.aload_n 0, 1) := by decide +kernel
theorem dX9_readFrame_3 : decode cX9_readFrame 3 = .ok (.getfield 150, 3) := by decide +kernel
theorem dX9_readFrame_6 : decode cX9_readFrame 6 = .ok (.getfield 370, 3) := by decide +kernel
theorem dX9_readFrame_9 : decode cX9_readFrame 9 = .ok (.bipush 8, 2) := by decide +kernel
theorem dX9_readFrame_11 : decode cX9_readFrame 11 = .ok (.if_icmp .ne 7, 3) := by decide +kernel
theorem dX9_readFrame_14 : decode cX9_readFrame 14 = .ok (.iconst 1, 1) := by decide +kernel
theorem dX9_readFrame_15 : decode cX9_readFrame 15 = .ok (.goto 4, 3) := by decide +kernel
theorem dX9_readFrame_18 : decode cX9_readFrame 18 = .ok (.iconst 0, 1) := by decide +kernel
theorem dX9_readFrame_19 : decode cX9_readFrame 19 = .ok (.iconst 0, 1) := by decide +kernel
theorem dX9_readFrame_20 : decode cX9_readFrame 20 = .ok (.invokevirtual 271, 3) := by decide +kernel
theorem dX9_readFrame_23 : decode cX9_readFrame 23 = .ok (.aload_n 0, 1) := by decide +kernel
theorem dX9_readFrame_24 : decode cX9_readFrame 24 = .ok (.iconst 0, 1) := by decide +kernel
theorem dX9_readFrame_25 : decode cX9_readFrame 25 = .ok (.bipush 40, 2) := by decide +kernel
theorem dX9_readFrame_27 : decode cX9_readFrame 27 = .ok (.invokevirtual 147, 3) := by decide +kernel
theorem dX9_readFrame_30 : decode cX9_readFrame 30 = .ok (.istore_n 1, 1) := by decide +kernel
theorem dX9_readFrame_31 : decode cX9_readFrame 31 = .ok (.aload_n 0, 1) := by decide +kernel
theorem dX9_readFrame_32 : decode cX9_readFrame 32 = .ok (.iconst 0, 1) := by decide +kernel
theorem dX9_readFrame_33 : decode cX9_readFrame 33 = .ok (.aload_n 0, 1) := by decide +kernel
theorem dX9_readFrame_34 : decode cX9_readFrame 34 = .ok (.getfield 150, 3) := by decide +kernel
theorem dX9_readFrame_37 : decode cX9_readFrame 37 = .ok (.getfield 351, 3) := by decide +kernel
theorem dX9_readFrame_40 : decode cX9_readFrame 40 = .ok (.iconst 1, 1) := by decide +kernel
theorem dX9_readFrame_41 : decode cX9_readFrame 41 = .ok (.isub, 1) := by decide +kernel
theorem dX9_readFrame_42 : decode cX9_readFrame 42 = .ok (.invokevirtual 147, 3) := by decide +kernel
theorem dX9_readFrame_45 : decode cX9_readFrame 45 = .ok (.istore_n 2, 1) := by decide +kernel
theorem dX9_readFrame_46 : decode cX9_readFrame 46 = .ok (.aload_n 0, 1) := by decide +kernel
theorem dX9_readFrame_47 : decode cX9_readFrame 47 = .ok (.ldc_w 322, 3) := by decide +kernel
theorem dX9_readFrame_50 : decode cX9_readFrame 50 = .ok (.invokevirtual 143, 3) := by decide +kernel
theorem dX9_readFrame_53 : decode cX9_readFrame 53 = .ok (.aload_n 0, 1) := by decide +kernel
theorem dX9_readFrame_54 : decode cX9_readFrame 54 = .ok (.invokevirtual 280, 3) := by decide +kernel
theorem dX9_readFrame_57 : decode cX9_readFrame 57 = .ok (.istore_n 3, 1) := by decide +kernel
theorem dX9_readFrame_58 : decode cX9_readFrame 58 = .ok (.aload_n 0, 1) := by decide +kernel
theorem dX9_readFrame_59 : decode cX9_readFrame 59 = .ok (.invokevirtual 124, 3) := by decide +kernel
theorem dX9_readFrame_62 : decode cX9_readFrame 62 = .ok (.aload_n 0, 1) := by decide +kernel
theorem dX9_readFrame_63 : decode cX9_readFrame 63 = .ok (.getfield 82, 3) := by decide +kernel
theorem dX9_readFrame_66 : decode cX9_readFrame 66 = .ok (.iconst 5, 1) := by decide +kernel
theorem dX9_readFrame_67 : decode cX9_readFrame 67 = .ok (.if_icmp .ne 4, 3) := by decide +kernel
theorem dX9_readFrame_70 : decode cX9_readFrame 70 = .ok (.return_, 1) := by decide +kernel
theorem dX9_readFrame_71 : decode cX9_readFrame 71 = .ok (.aload_n 0, 1) := by decide +kernel
theorem dX9_readFrame_72 : decode cX9_readFrame 72 = .ok (.getfield 150, 3) := by decide +kernel
theorem dX9_readFrame_75 : decode cX9_readFrame 75 = .ok (.getfield 373, 3) := by decide +kernel
theorem dX9_readFrame_78 : decode cX9_readFrame 78 = .ok (.aload_n 0, 1) := by decide +kernel
theorem dX9_readFrame_79 : decode cX9_readFrame 79 = .ok (.getfield 150, 3) := by decide +kernel
theorem dX9_readFrame_82 : decode cX9_readFrame 82 = .ok (.getfield 370, 3) := by decide +kernel
theorem dX9_readFrame_85 : decode cX9_readFrame 85 = .ok (.iload_n 1, 1) := by decide +kernel
theorem dX9_readFrame_86 : decode cX9_readFrame 86 = .ok (.iastore, 1) := by decide +kernel
theorem dX9_readFrame_87 : decode cX9_readFrame 87 = .ok (.aload_n 0, 1) := by decide +kernel
theorem dX9_readFrame_88 : decode cX9_readFrame 88 = .ok (.getfield 150, 3) := by decide +kernel
theorem dX9_readFrame_91 : decode cX9_readFrame 91 = .ok (.getfield 376, 3) := by decide +kernel
theorem dX9_readFrame_94 : decode cX9_readFrame 94 = .ok (.aload_n 0, 1) := by decide +kernel
theorem dX9_readFrame_95 : decode cX9_readFrame 95 = .ok (.getfield 150, 3) := by decide +kernel
theorem dX9_readFrame_98 : decode cX9_readFrame 98 = .ok (.getfield 370, 3) := by decide +kernel
theorem dX9_readFrame_101 : decode cX9_readFrame 101 = .ok (.iload_n 2, 1) := by decide +kernel
theorem dX9_readFrame_102 : decode cX9_readFrame 102 = .ok (.iastore, 1) := by decide +kernel
theorem dX9_readFrame_103 : decode cX9_readFrame 103 = .ok (.aload_n 0, 1) := by decide +kernel
theorem dX9_readFrame_104 : decode cX9_readFrame 104 = .ok (.getfield 150, 3) := by decide +kernel
theorem dX9_readFrame_107 : decode cX9_readFrame 107 = .ok (.getfield 379, 3) := by decide +kernel
theorem dX9_readFrame_110 : decode cX9_readFrame 110 = .ok (.aload_n 0, 1) := by decide +kernel
theorem dX9_readFrame_111 : decode cX9_readFrame 111 = .ok (.getfield 150, 3) := by decide +kernel
theorem dX9_readFrame_114 : decode cX9_readFrame 114 = .ok (.getfield 370, 3) := by decide +kernel
theorem dX9_readFrame_117 : decode cX9_readFrame 117 = .ok (.iload_n 3, 1) := by decide +kernel
theorem dX9_readFrame_118 : decode cX9_readFrame 118 = .ok (.iastore, 1) := by decide +kernel
theorem dX9_readFrame_119 : decode cX9_readFrame 119 = .ok (.aload_n 0, 1) := by decide +kernel
theorem dX9_readFrame_120 : decode cX9_readFrame 120 = .ok (.getfield 150, 3) := by decide +kernel
theorem dX9_readFrame_123 : decode cX9_readFrame 123 = .ok (.dup, 1) := by decide +kernel
theorem dX9_readFrame_124 : decode cX9_readFrame 124 = .ok (.getfield 370, 3) := by decide +kernel
theorem dX9_readFrame_127 : decode cX9_readFrame 127 = .ok (.iconst 1, 1) := by decide +kernel
theorem dX9_readFrame_128 : decode cX9_readFrame 128 = .ok (.iadd, 1) := by decide +kernel
theorem dX9_readFrame_129 : decode cX9_readFrame 129 = .ok (.putfield 370, 3) := by decide +kernel
theorem dX9_readFrame_132 : decode cX9_readFrame 132 = .ok (.return_, 1) := by decide +kernel
theorem dX9_feed_0 : decode cX9_feed 0 = .ok (.aload_n 0, 1) := by decide +kernel
theorem dX9_feed_1 : decode cX9_feed 1 = .ok (.iconst 0, 1) := by decide +kernel
theorem dX9_feed_2 : decode cX9_feed 2 = .ok (.putfield 54, 3) := by decide +kernel
theorem dX9_feed_5 : decode cX9_feed 5 = .ok (.aload_n 0, 1) := by decide +kernel
theorem dX9_feed_6 : decode cX9_feed 6 = .ok (.getfield 382, 3) := by decide +kernel
theorem dX9_feed_9 : decode cX9_feed 9 = .ok (.bipush 20, 2) := by decide +kernel
theorem dX9_feed_11 : decode cX9_feed 11 = .ok (.iadd, 1) := by decide +kernel
theorem dX9_feed_12 : decode cX9_feed 12 = .ok (.sipush 900, 3) := by decide +kernel
theorem dX9_feed_15 : decode cX9_feed 15 = .ok (.if_icmp .le 5, 3) := by decide +kernel
theorem dX9_feed_18 : decode cX9_feed 18 = .ok (.iconst (-1), 1) := by decide +kernel
theorem dX9_feed_19 : decode cX9_feed 19 = .ok (.ireturn, 1) := by decide +kernel
theorem dX9_feed_20 : decode cX9_feed 20 = .ok (.iconst 0, 1) := by decide +kernel
theorem dX9_feed_21 : decode cX9_feed 21 = .ok (.istore 6, 2) := by decide +kernel
theorem dX9_feed_23 : decode cX9_feed 23 = .ok (.iload 6, 2) := by decide +kernel
theorem dX9_feed_25 : decode cX9_feed 25 = .ok (.bipush 20, 2) := by decide +kernel
theorem dX9_feed_27 : decode cX9_feed 27 = .ok (.if_icmp .ge 90, 3) := by decide +kernel
theorem dX9_feed_30 : decode cX9_feed 30 = .ok (.iload 6, 2) := by decide +kernel
theorem dX9_feed_32 : decode cX9_feed 32 = .ok (.iconst 4, 1) := by decide +kernel
theorem dX9_feed_33 : decode cX9_feed 33 = .ok (.if_icmp .ge 7, 3) := by decide +kernel
theorem dX9_feed_36 : decode cX9_feed 36 = .ok (.iload_n 1, 1) := by decide +kernel
theorem dX9_feed_37 : decode cX9_feed 37 = .ok (.goto 39, 3) := by decide +kernel
theorem dX9_feed_40 : decode cX9_feed 40 = .ok (.iload 6, 2) := by decide +kernel
theorem dX9_feed_42 : decode cX9_feed 42 = .ok (.bipush 8, 2) := by decide +kernel
theorem dX9_feed_44 : decode cX9_feed 44 = .ok (.if_icmp .ge 7, 3) := by decide +kernel
theorem dX9_feed_47 : decode cX9_feed 47 = .ok (.iload_n 2, 1) := by decide +kernel
theorem dX9_feed_48 : decode cX9_feed 48 = .ok (.goto 28, 3) := by decide +kernel
theorem dX9_feed_51 : decode cX9_feed 51 = .ok (.iload 6, 2) := by decide +kernel
theorem dX9_feed_53 : decode cX9_feed 53 = .ok (.bipush 12, 2) := by decide +kernel
theorem dX9_feed_55 : decode cX9_feed 55 = .ok (.if_icmp .ge 7, 3) := by decide +kernel
theorem dX9_feed_58 : decode cX9_feed 58 = .ok (.iload_n 3, 1) := by decide +kernel
theorem dX9_feed_59 : decode cX9_feed 59 = .ok (.goto 17, 3) := by decide +kernel
theorem dX9_feed_62 : decode cX9_feed 62 = .ok (.iload 6, 2) := by decide +kernel
theorem dX9_feed_64 : decode cX9_feed 64 = .ok (.bipush 16, 2) := by decide +kernel
theorem dX9_feed_66 : decode cX9_feed 66 = .ok (.if_icmp .ge 8, 3) := by decide +kernel
theorem dX9_feed_69 : decode cX9_feed 69 = .ok (.iload 4, 2) := by decide +kernel
theorem dX9_feed_71 : decode cX9_feed 71 = .ok (.goto 5, 3) := by decide +kernel
theorem dX9_feed_74 : decode cX9_feed 74 = .ok (.iload 5, 2) := by decide +kernel
theorem dX9_feed_76 : decode cX9_feed 76 = .ok (.istore 7, 2) := by decide +kernel
theorem dX9_feed_78 : decode cX9_feed 78 = .ok (.aload_n 0, 1) := by decide +kernel
theorem dX9_feed_79 : decode cX9_feed 79 = .ok (.getfield 13, 3) := by decide +kernel
theorem dX9_feed_82 : decode cX9_feed 82 = .ok (.aload_n 0, 1) := by decide +kernel
theorem dX9_feed_83 : decode cX9_feed 83 = .ok (.getfield 382, 3) := by decide +kernel
theorem dX9_feed_86 : decode cX9_feed 86 = .ok (.iload 7, 2) := by decide +kernel
theorem dX9_feed_88 : decode cX9_feed 88 = .ok (.bipush 24, 2) := by decide +kernel
theorem dX9_feed_90 : decode cX9_feed 90 = .ok (.bipush 8, 2) := by decide +kernel
theorem dX9_feed_92 : decode cX9_feed 92 = .ok (.iload 6, 2) := by decide +kernel
theorem dX9_feed_94 : decode cX9_feed 94 = .ok (.iconst 4, 1) := by decide +kernel
theorem dX9_feed_95 : decode cX9_feed 95 = .ok (.irem, 1) := by decide +kernel
theorem dX9_feed_96 : decode cX9_feed 96 = .ok (.imul, 1) := by decide +kernel
theorem dX9_feed_97 : decode cX9_feed 97 = .ok (.isub, 1) := by decide +kernel
theorem dX9_feed_98 : decode cX9_feed 98 = .ok (.ishr, 1) := by decide +kernel
theorem dX9_feed_99 : decode cX9_feed 99 = .ok (.i2b, 1) := by decide +kernel
theorem dX9_feed_100 : decode cX9_feed 100 = .ok (.bastore, 1) := by decide +kernel
theorem dX9_feed_101 : decode cX9_feed 101 = .ok (.aload_n 0, 1) := by decide +kernel
theorem dX9_feed_102 : decode cX9_feed 102 = .ok (.dup, 1) := by decide +kernel
theorem dX9_feed_103 : decode cX9_feed 103 = .ok (.getfield 382, 3) := by decide +kernel
theorem dX9_feed_106 : decode cX9_feed 106 = .ok (.iconst 1, 1) := by decide +kernel
theorem dX9_feed_107 : decode cX9_feed 107 = .ok (.iadd, 1) := by decide +kernel
theorem dX9_feed_108 : decode cX9_feed 108 = .ok (.putfield 382, 3) := by decide +kernel
theorem dX9_feed_111 : decode cX9_feed 111 = .ok (.iinc 6 1, 3) := by decide +kernel
theorem dX9_feed_114 : decode cX9_feed 114 = .ok (.goto (-91), 3) := by decide +kernel
theorem dX9_feed_117 : decode cX9_feed 117 = .ok (.aload_n 0, 1) := by decide +kernel
theorem dX9_feed_118 : decode cX9_feed 118 = .ok (.getfield 382, 3) := by decide +kernel
theorem dX9_feed_121 : decode cX9_feed 121 = .ok (.ireturn, 1) := by decide +kernel
theorem dX9_hall_0 : decode cX9_hall 0 = .ok (.aload_n 0, 1) := by decide +kernel
theorem dX9_hall_1 : decode cX9_hall 1 = .ok (.iconst 0, 1) := by decide +kernel
theorem dX9_hall_2 : decode cX9_hall 2 = .ok (.putfield 54, 3) := by decide +kernel
theorem dX9_hall_5 : decode cX9_hall 5 = .ok (.iload_n 1, 1) := by decide +kernel
theorem dX9_hall_6 : decode cX9_hall 6 = .ok (.ifCond .lt 11, 3) := by decide +kernel
theorem dX9_hall_9 : decode cX9_hall 9 = .ok (.iload_n 1, 1) := by decide +kernel
theorem dX9_hall_10 : decode cX9_hall 10 = .ok (.aload_n 0, 1) := by decide +kernel
theorem dX9_hall_11 : decode cX9_hall 11 = .ok (.getfield 382, 3) := by decide +kernel
theorem dX9_hall_14 : decode cX9_hall 14 = .ok (.if_icmp .le 9, 3) := by decide +kernel
theorem dX9_hall_17 : decode cX9_hall 17 = .ok (.aload_n 0, 1) := by decide +kernel
theorem dX9_hall_18 : decode cX9_hall 18 = .ok (.iconst 2, 1) := by decide +kernel
theorem dX9_hall_19 : decode cX9_hall 19 = .ok (.invokevirtual 60, 3) := by decide +kernel
theorem dX9_hall_22 : decode cX9_hall 22 = .ok (.ireturn, 1) := by decide +kernel
theorem dX9_hall_23 : decode cX9_hall 23 = .ok (.aload_n 0, 1) := by decide +kernel
theorem dX9_hall_24 : decode cX9_hall 24 = .ok (.iload_n 1, 1) := by decide +kernel
theorem dX9_hall_25 : decode cX9_hall 25 = .ok (.putfield 67, 3) := by decide +kernel
theorem dX9_hall_28 : decode cX9_hall 28 = .ok (.aload_n 0, 1) := by decide +kernel
theorem dX9_hall_29 : decode cX9_hall 29 = .ok (.iconst 0, 1) := by decide +kernel
theorem dX9_hall_30 : decode cX9_hall 30 = .ok (.putfield 382, 3) := by decide +kernel
theorem dX9_hall_33 : decode cX9_hall 33 = .ok (.aload_n 0, 1) := by decide +kernel
theorem dX9_hall_34 : decode cX9_hall 34 = .ok (.iconst 0, 1) := by decide +kernel
theorem dX9_hall_35 : decode cX9_hall 35 = .ok (.putfield 85, 3) := by decide +kernel
theorem dX9_hall_38 : decode cX9_hall 38 = .ok (.aload_n 0, 1) := by decide +kernel
theorem dX9_hall_39 : decode cX9_hall 39 = .ok (.iconst 0, 1) := by decide +kernel
theorem dX9_hall_40 : decode cX9_hall 40 = .ok (.putfield 114, 3) := by decide +kernel
theorem dX9_hall_43 : decode cX9_hall 43 = .ok (.aload_n 0, 1) := by decide +kernel
theorem dX9_hall_44 : decode cX9_hall 44 = .ok (.new 155, 3) := by decide +kernel
theorem dX9_hall_47 : decode cX9_hall 47 = .ok (.dup, 1) := by decide +kernel
theorem dX9_hall_48 : decode cX9_hall 48 = .ok (.invokespecial 385, 3) := by decide +kernel
theorem dX9_hall_51 : decode cX9_hall 51 = .ok (.putfield 150, 3) := by decide +kernel
theorem dX9_hall_54 : decode cX9_hall 54 = .ok (.aload_n 0, 1) := by decide +kernel
theorem dX9_hall_55 : decode cX9_hall 55 = .ok (.iconst 0, 1) := by decide +kernel
theorem dX9_hall_56 : decode cX9_hall 56 = .ok (.putfield 82, 3) := by decide +kernel
theorem dX9_hall_59 : decode cX9_hall 59 = .ok (.aload_n 0, 1) := by decide +kernel
theorem dX9_hall_60 : decode cX9_hall 60 = .ok (.invokevirtual 124, 3) := by decide +kernel
theorem dX9_hall_63 : decode cX9_hall 63 = .ok (.aload_n 0, 1) := by decide +kernel
theorem dX9_hall_64 : decode cX9_hall 64 = .ok (.invokevirtual 386, 3) := by decide +kernel
theorem dX9_hall_67 : decode cX9_hall 67 = .ok (.aload_n 0, 1) := by decide +kernel
theorem dX9_hall_68 : decode cX9_hall 68 = .ok (.getfield 114, 3) := by decide +kernel
theorem dX9_hall_71 : decode cX9_hall 71 = .ok (.ifCond .le 18, 3) := by decide +kernel
theorem dX9_hall_74 : decode cX9_hall 74 = .ok (.aload_n 0, 1) := by decide +kernel
theorem dX9_hall_75 : decode cX9_hall 75 = .ok (.iconst 4, 1) := by decide +kernel
theorem dX9_hall_76 : decode cX9_hall 76 = .ok (.putfield 57, 3) := by decide +kernel
theorem dX9_hall_79 : decode cX9_hall 79 = .ok (.aload_n 0, 1) := by decide +kernel
theorem dX9_hall_80 : decode cX9_hall 80 = .ok (.aload_n 0, 1) := by decide +kernel
theorem dX9_hall_81 : decode cX9_hall 81 = .ok (.getfield 117, 3) := by decide +kernel
theorem dX9_hall_84 : decode cX9_hall 84 = .ok (.putfield 9, 3) := by decide +kernel
theorem dX9_hall_87 : decode cX9_hall 87 = .ok (.iconst (-1), 1) := by decide +kernel
theorem dX9_hall_88 : decode cX9_hall 88 = .ok (.ireturn, 1) := by decide +kernel
theorem dX9_hall_89 : decode cX9_hall 89 = .ok (.aload_n 0, 1) := by decide +kernel
theorem dX9_hall_90 : decode cX9_hall 90 = .ok (.aload_n 0, 1) := by decide +kernel
theorem dX9_hall_91 : decode cX9_hall 91 = .ok (.getfield 150, 3) := by decide +kernel
theorem dX9_hall_94 : decode cX9_hall 94 = .ok (.putfield 389, 3) := by decide +kernel
theorem dX9_hall_97 : decode cX9_hall 97 = .ok (.aload_n 0, 1) := by decide +kernel
theorem dX9_hall_98 : decode cX9_hall 98 = .ok (.aload_n 0, 1) := by decide +kernel
theorem dX9_hall_99 : decode cX9_hall 99 = .ok (.getfield 21, 3) := by decide +kernel
theorem dX9_hall_102 : decode cX9_hall 102 = .ok (.invokevirtual 391, 3) := by decide +kernel
theorem dX9_hall_105 : decode cX9_hall 105 = .ok (.aload_n 0, 1) := by decide +kernel
theorem dX9_hall_106 : decode cX9_hall 106 = .ok (.iconst 0, 1) := by decide +kernel
theorem dX9_hall_107 : decode cX9_hall 107 = .ok (.putfield 395, 3) := by decide +kernel
theorem dX9_hall_110 : decode cX9_hall 110 = .ok (.aload_n 0, 1) := by decide +kernel
theorem dX9_hall_111 : decode cX9_hall 111 = .ok (.iconst 0, 1) := by decide +kernel
theorem dX9_hall_112 : decode cX9_hall 112 = .ok (.putfield 398, 3) := by decide +kernel
theorem dX9_hall_115 : decode cX9_hall 115 = .ok (.aload_n 0, 1) := by decide +kernel
theorem dX9_hall_116 : decode cX9_hall 116 = .ok (.aload_n 0, 1) := by decide +kernel
theorem dX9_hall_117 : decode cX9_hall 117 = .ok (.getfield 389, 3) := by decide +kernel
theorem dX9_hall_120 : decode cX9_hall 120 = .ok (.getfield 351, 3) := by decide +kernel
theorem dX9_hall_123 : decode cX9_hall 123 = .ok (.invokevirtual 64, 3) := by decide +kernel
theorem dX9_hall_126 : decode cX9_hall 126 = .ok (.ireturn, 1) := by decide +kernel
theorem dX9_fault_0 : decode cX9_fault 0 = .ok (.aload_n 0, 1) := by decide +kernel
theorem dX9_fault_1 : decode cX9_fault 1 = .ok (.iconst 0, 1) := by decide +kernel
theorem dX9_fault_2 : decode cX9_fault 2 = .ok (.putfield 54, 3) := by decide +kernel
theorem dX9_fault_5 : decode cX9_fault 5 = .ok (.aload_n 0, 1) := by decide +kernel
theorem dX9_fault_6 : decode cX9_fault 6 = .ok (.getfield 114, 3) := by decide +kernel
theorem dX9_fault_9 : decode cX9_fault 9 = .ok (.ireturn, 1) := by decide +kernel
theorem dX9_where_0 : decode cX9_where 0 = .ok (.aload_n 0, 1) := by decide +kernel
theorem dX9_where_1 : decode cX9_where 1 = .ok (.iconst 0, 1) := by decide +kernel
theorem dX9_where_2 : decode cX9_where 2 = .ok (.putfield 54, 3) := by decide +kernel
theorem dX9_where_5 : decode cX9_where 5 = .ok (.aload_n 0, 1) := by decide +kernel
theorem dX9_where_6 : decode cX9_where 6 = .ok (.getfield 9, 3) := by decide +kernel
theorem dX9_where_9 : decode cX9_where 9 = .ok (.ireturn, 1) := by decide +kernel
theorem dX9_startsFrom_0 : decode cX9_startsFrom 0 = .ok (.iconst 0, 1) := by decide +kernel
theorem dX9_startsFrom_1 : decode cX9_startsFrom 1 = .ok (.istore_n 2, 1) := by decide +kernel
theorem dX9_startsFrom_2 : decode cX9_startsFrom 2 = .ok (.iload_n 2, 1) := by decide +kernel
theorem dX9_startsFrom_3 : decode cX9_startsFrom 3 = .ok (.sipush 298, 3) := by decide +kernel
theorem dX9_startsFrom_6 : decode cX9_startsFrom 6 = .ok (.if_icmp .ge 13, 3) := by decide +kernel
theorem dX9_startsFrom_9 : decode cX9_startsFrom 9 = .ok (.aload_n 1, 1) := by decide +kernel
theorem dX9_startsFrom_10 : decode cX9_startsFrom 10 = .ok (.iload_n 2, 1) := by decide +kernel
theorem dX9_startsFrom_11 : decode cX9_startsFrom 11 = .ok (.iconst 0, 1) := by decide +kernel
theorem dX9_startsFrom_12 : decode cX9_startsFrom 12 = .ok (.iastore, 1) := by decide +kernel
theorem dX9_startsFrom_13 : decode cX9_startsFrom 13 = .ok (.iinc 2 1, 3) := by decide +kernel
theorem dX9_startsFrom_16 : decode cX9_startsFrom 16 = .ok (.goto (-14), 3) := by decide +kernel
theorem dX9_startsFrom_19 : decode cX9_startsFrom 19 = .ok (.aload_n 0, 1) := by decide +kernel
theorem dX9_startsFrom_20 : decode cX9_startsFrom 20 = .ok (.getfield 389, 3) := by decide +kernel
theorem dX9_startsFrom_23 : decode cX9_startsFrom 23 = .ok (.getfield 212, 3) := by decide +kernel
theorem dX9_startsFrom_26 : decode cX9_startsFrom 26 = .ok (.istore_n 2, 1) := by decide +kernel
theorem dX9_startsFrom_27 : decode cX9_startsFrom 27 = .ok (.iconst 0, 1) := by decide +kernel
theorem dX9_startsFrom_28 : decode cX9_startsFrom 28 = .ok (.istore_n 3, 1) := by decide +kernel
theorem dX9_startsFrom_29 : decode cX9_startsFrom 29 = .ok (.iload_n 3, 1) := by decide +kernel
theorem dX9_startsFrom_30 : decode cX9_startsFrom 30 = .ok (.aload_n 0, 1) := by decide +kernel
theorem dX9_startsFrom_31 : decode cX9_startsFrom 31 = .ok (.getfield 389, 3) := by decide +kernel
theorem dX9_startsFrom_34 : decode cX9_startsFrom 34 = .ok (.getfield 351, 3) := by decide +kernel
theorem dX9_startsFrom_37 : decode cX9_startsFrom 37 = .ok (.if_icmp .ge 112, 3) := by decide +kernel
theorem dX9_startsFrom_40 : decode cX9_startsFrom 40 = .ok (.aload_n 0, 1) := by decide +kernel
theorem dX9_startsFrom_41 : decode cX9_startsFrom 41 = .ok (.getfield 389, 3) := by decide +kernel
theorem dX9_startsFrom_44 : decode cX9_startsFrom 44 = .ok (.getfield 351, 3) := by decide +kernel
theorem dX9_startsFrom_47 : decode cX9_startsFrom 47 = .ok (.iconst 1, 1) := by decide +kernel
theorem dX9_startsFrom_48 : decode cX9_startsFrom 48 = .ok (.isub, 1) := by decide +kernel
theorem dX9_startsFrom_49 : decode cX9_startsFrom 49 = .ok (.iload_n 3, 1) := by decide +kernel
theorem dX9_startsFrom_50 : decode cX9_startsFrom 50 = .ok (.isub, 1) := by decide +kernel
theorem dX9_startsFrom_51 : decode cX9_startsFrom 51 = .ok (.istore 4, 2) := by decide +kernel
theorem dX9_startsFrom_53 : decode cX9_startsFrom 53 = .ok (.aload_n 1, 1) := by decide +kernel
theorem dX9_startsFrom_54 : decode cX9_startsFrom 54 = .ok (.iconst 0, 1) := by decide +kernel
theorem dX9_startsFrom_55 : decode cX9_startsFrom 55 = .ok (.iload 4, 2) := by decide +kernel
theorem dX9_startsFrom_57 : decode cX9_startsFrom 57 = .ok (.iadd, 1) := by decide +kernel
theorem dX9_startsFrom_58 : decode cX9_startsFrom 58 = .ok (.iload_n 2, 1) := by decide +kernel
theorem dX9_startsFrom_59 : decode cX9_startsFrom 59 = .ok (.iastore, 1) := by decide +kernel
theorem dX9_startsFrom_60 : decode cX9_startsFrom 60 = .ok (.aload_n 0, 1) := by decide +kernel
theorem dX9_startsFrom_61 : decode cX9_startsFrom 61 = .ok (.getfield 389, 3) := by decide +kernel
theorem dX9_startsFrom_64 : decode cX9_startsFrom 64 = .ok (.iload_n 2, 1) := by decide +kernel
theorem dX9_startsFrom_65 : decode cX9_startsFrom 65 = .ok (.aload_n 0, 1) := by decide +kernel
theorem dX9_startsFrom_66 : decode cX9_startsFrom 66 = .ok (.getfield 389, 3) := by decide +kernel
theorem dX9_startsFrom_69 : decode cX9_startsFrom 69 = .ok (.getfield 367, 3) := by decide +kernel
theorem dX9_startsFrom_72 : decode cX9_startsFrom 72 = .ok (.iconst 2, 1) := by decide +kernel
theorem dX9_startsFrom_73 : decode cX9_startsFrom 73 = .ok (.iadd, 1) := by decide +kernel
theorem dX9_startsFrom_74 : decode cX9_startsFrom 74 = .ok (.invokevirtual 364, 3) := by decide +kernel
theorem dX9_startsFrom_77 : decode cX9_startsFrom 77 = .ok (.istore_n 2, 1) := by decide +kernel
theorem dX9_startsFrom_78 : decode cX9_startsFrom 78 = .ok (.aload_n 1, 1) := by decide +kernel
theorem dX9_startsFrom_79 : decode cX9_startsFrom 79 = .ok (.sipush 204, 3) := by decide +kernel
theorem dX9_startsFrom_82 : decode cX9_startsFrom 82 = .ok (.iload_n 3, 1) := by decide +kernel
theorem dX9_startsFrom_83 : decode cX9_startsFrom 83 = .ok (.iadd, 1) := by decide +kernel
theorem dX9_startsFrom_84 : decode cX9_startsFrom 84 = .ok (.iload_n 3, 1) := by decide +kernel
theorem dX9_startsFrom_85 : decode cX9_startsFrom 85 = .ok (.iastore, 1) := by decide +kernel
theorem dX9_startsFrom_86 : decode cX9_startsFrom 86 = .ok (.aload_n 1, 1) := by decide +kernel
theorem dX9_startsFrom_87 : decode cX9_startsFrom 87 = .ok (.sipush 220, 3) := by decide +kernel
theorem dX9_startsFrom_90 : decode cX9_startsFrom 90 = .ok (.iload_n 3, 1) := by decide +kernel
theorem dX9_startsFrom_91 : decode cX9_startsFrom 91 = .ok (.iadd, 1) := by decide +kernel
theorem dX9_startsFrom_92 : decode cX9_startsFrom 92 = .ok (.iload 4, 2) := by decide +kernel
theorem dX9_startsFrom_94 : decode cX9_startsFrom 94 = .ok (.iastore, 1) := by decide +kernel
theorem dX9_startsFrom_95 : decode cX9_startsFrom 95 = .ok (.aload_n 1, 1) := by decide +kernel
theorem dX9_startsFrom_96 : decode cX9_startsFrom 96 = .ok (.sipush 236, 3) := by decide +kernel
theorem dX9_startsFrom_99 : decode cX9_startsFrom 99 = .ok (.iload_n 3, 1) := by decide +kernel
theorem dX9_startsFrom_100 : decode cX9_startsFrom 100 = .ok (.iadd, 1) := by decide +kernel
theorem dX9_startsFrom_101 : decode cX9_startsFrom 101 = .ok (.aload_n 0, 1) := by decide +kernel
theorem dX9_startsFrom_102 : decode cX9_startsFrom 102 = .ok (.getfield 389, 3) := by decide +kernel
theorem dX9_startsFrom_105 : decode cX9_startsFrom 105 = .ok (.getfield 354, 3) := by decide +kernel
theorem dX9_startsFrom_108 : decode cX9_startsFrom 108 = .ok (.iload_n 3, 1) := by decide +kernel
theorem dX9_startsFrom_109 : decode cX9_startsFrom 109 = .ok (.iaload, 1) := by decide +kernel
theorem dX9_startsFrom_110 : decode cX9_startsFrom 110 = .ok (.iastore, 1) := by decide +kernel
theorem dX9_startsFrom_111 : decode cX9_startsFrom 111 = .ok (.aload_n 1, 1) := by decide +kernel
theorem dX9_startsFrom_112 : decode cX9_startsFrom 112 = .ok (.sipush 252, 3) := by decide +kernel
theorem dX9_startsFrom_115 : decode cX9_startsFrom 115 = .ok (.iload_n 3, 1) := by decide +kernel
theorem dX9_startsFrom_116 : decode cX9_startsFrom 116 = .ok (.iadd, 1) := by decide +kernel
theorem dX9_startsFrom_117 : decode cX9_startsFrom 117 = .ok (.aload_n 0, 1) := by decide +kernel
theorem dX9_startsFrom_118 : decode cX9_startsFrom 118 = .ok (.getfield 389, 3) := by decide +kernel
theorem dX9_startsFrom_121 : decode cX9_startsFrom 121 = .ok (.getfield 357, 3) := by decide +kernel
theorem dX9_startsFrom_124 : decode cX9_startsFrom 124 = .ok (.iload_n 3, 1) := by decide +kernel
theorem dX9_startsFrom_125 : decode cX9_startsFrom 125 = .ok (.iaload, 1) := by decide +kernel
theorem dX9_startsFrom_126 : decode cX9_startsFrom 126 = .ok (.iastore, 1) := by decide +kernel
theorem dX9_startsFrom_127 : decode cX9_startsFrom 127 = .ok (.aload_n 1, 1) := by decide +kernel
theorem dX9_startsFrom_128 : decode cX9_startsFrom 128 = .ok (.sipush 268, 3) := by decide +kernel
theorem dX9_startsFrom_131 : decode cX9_startsFrom 131 = .ok (.iload_n 3, 1) := by decide +kernel
theorem dX9_startsFrom_132 : decode cX9_startsFrom 132 = .ok (.iadd, 1) := by decide +kernel
theorem dX9_startsFrom_133 : decode cX9_startsFrom 133 = .ok (.aload_n 0, 1) := by decide +kernel
theorem dX9_startsFrom_134 : decode cX9_startsFrom 134 = .ok (.getfield 389, 3) := by decide +kernel
theorem dX9_startsFrom_137 : decode cX9_startsFrom 137 = .ok (.getfield 359, 3) := by decide +kernel
theorem dX9_startsFrom_140 : decode cX9_startsFrom 140 = .ok (.iload_n 3, 1) := by decide +kernel
theorem dX9_startsFrom_141 : decode cX9_startsFrom 141 = .ok (.iaload, 1) := by decide +kernel
theorem dX9_startsFrom_142 : decode cX9_startsFrom 142 = .ok (.iastore, 1) := by decide +kernel
theorem dX9_startsFrom_143 : decode cX9_startsFrom 143 = .ok (.iinc 3 1, 3) := by decide +kernel
theorem dX9_startsFrom_146 : decode cX9_startsFrom 146 = .ok (.goto (-117), 3) := by decide +kernel
theorem dX9_startsFrom_149 : decode cX9_startsFrom 149 = .ok (.iconst 0, 1) := by decide +kernel
theorem dX9_startsFrom_150 : decode cX9_startsFrom 150 = .ok (.istore_n 3, 1) := by decide +kernel
theorem dX9_startsFrom_151 : decode cX9_startsFrom 151 = .ok (.iload_n 3, 1) := by decide +kernel
theorem dX9_startsFrom_152 : decode cX9_startsFrom 152 = .ok (.aload_n 0, 1) := by decide +kernel
theorem dX9_startsFrom_153 : decode cX9_startsFrom 153 = .ok (.getfield 389, 3) := by decide +kernel
theorem dX9_startsFrom_156 : decode cX9_startsFrom 156 = .ok (.getfield 311, 3) := by decide +kernel
theorem dX9_startsFrom_159 : decode cX9_startsFrom 159 = .ok (.if_icmp .ge 25, 3) := by decide +kernel
theorem dX9_startsFrom_162 : decode cX9_startsFrom 162 = .ok (.aload_n 1, 1) := by decide +kernel
theorem dX9_startsFrom_163 : decode cX9_startsFrom 163 = .ok (.sipush 284, 3) := by decide +kernel
theorem dX9_startsFrom_166 : decode cX9_startsFrom 166 = .ok (.iload_n 3, 1) := by decide +kernel
theorem dX9_startsFrom_167 : decode cX9_startsFrom 167 = .ok (.iadd, 1) := by decide +kernel
theorem dX9_startsFrom_168 : decode cX9_startsFrom 168 = .ok (.aload_n 0, 1) := by decide +kernel
theorem dX9_startsFrom_169 : decode cX9_startsFrom 169 = .ok (.getfield 389, 3) := by decide +kernel
theorem dX9_startsFrom_172 : decode cX9_startsFrom 172 = .ok (.getfield 338, 3) := by decide +kernel
theorem dX9_startsFrom_175 : decode cX9_startsFrom 175 = .ok (.iload_n 3, 1) := by decide +kernel
theorem dX9_startsFrom_176 : decode cX9_startsFrom 176 = .ok (.iaload, 1) := by decide +kernel
theorem dX9_startsFrom_177 : decode cX9_startsFrom 177 = .ok (.iastore, 1) := by decide +kernel
theorem dX9_startsFrom_178 : decode cX9_startsFrom 178 = .ok (.iinc 3 1, 3) := by decide +kernel
theorem dX9_startsFrom_181 : decode cX9_startsFrom 181 = .ok (.goto (-30), 3) := by decide +kernel
theorem dX9_startsFrom_184 : decode cX9_startsFrom 184 = .ok (.aload_n 1, 1) := by decide +kernel
theorem dX9_startsFrom_185 : decode cX9_startsFrom 185 = .ok (.sipush 288, 3) := by decide +kernel
theorem dX9_startsFrom_188 : decode cX9_startsFrom 188 = .ok (.aload_n 0, 1) := by decide +kernel
theorem dX9_startsFrom_189 : decode cX9_startsFrom 189 = .ok (.getfield 389, 3) := by decide +kernel
theorem dX9_startsFrom_192 : decode cX9_startsFrom 192 = .ok (.getfield 351, 3) := by decide +kernel
theorem dX9_startsFrom_195 : decode cX9_startsFrom 195 = .ok (.iastore, 1) := by decide +kernel
theorem dX9_startsFrom_196 : decode cX9_startsFrom 196 = .ok (.aload_n 1, 1) := by decide +kernel
theorem dX9_startsFrom_197 : decode cX9_startsFrom 197 = .ok (.sipush 289, 3) := by decide +kernel
theorem dX9_startsFrom_200 : decode cX9_startsFrom 200 = .ok (.aload_n 0, 1) := by decide +kernel
theorem dX9_startsFrom_201 : decode cX9_startsFrom 201 = .ok (.getfield 389, 3) := by decide +kernel
theorem dX9_startsFrom_204 : decode cX9_startsFrom 204 = .ok (.getfield 351, 3) := by decide +kernel
theorem dX9_startsFrom_207 : decode cX9_startsFrom 207 = .ok (.iastore, 1) := by decide +kernel
theorem dX9_startsFrom_208 : decode cX9_startsFrom 208 = .ok (.aload_n 1, 1) := by decide +kernel
theorem dX9_startsFrom_209 : decode cX9_startsFrom 209 = .ok (.sipush 290, 3) := by decide +kernel
theorem dX9_startsFrom_212 : decode cX9_startsFrom 212 = .ok (.aload_n 0, 1) := by decide +kernel
theorem dX9_startsFrom_213 : decode cX9_startsFrom 213 = .ok (.getfield 389, 3) := by decide +kernel
theorem dX9_startsFrom_216 : decode cX9_startsFrom 216 = .ok (.getfield 351, 3) := by decide +kernel
theorem dX9_startsFrom_219 : decode cX9_startsFrom 219 = .ok (.iastore, 1) := by decide +kernel
theorem dX9_startsFrom_220 : decode cX9_startsFrom 220 = .ok (.aload_n 1, 1) := by decide +kernel
theorem dX9_startsFrom_221 : decode cX9_startsFrom 221 = .ok (.sipush 291, 3) := by decide +kernel
theorem dX9_startsFrom_224 : decode cX9_startsFrom 224 = .ok (.aload_n 0, 1) := by decide +kernel
theorem dX9_startsFrom_225 : decode cX9_startsFrom 225 = .ok (.getfield 389, 3) := by decide +kernel
theorem dX9_startsFrom_228 : decode cX9_startsFrom 228 = .ok (.getfield 209, 3) := by decide +kernel
theorem dX9_startsFrom_231 : decode cX9_startsFrom 231 = .ok (.iastore, 1) := by decide +kernel
theorem dX9_startsFrom_232 : decode cX9_startsFrom 232 = .ok (.aload_n 1, 1) := by decide +kernel
theorem dX9_startsFrom_233 : decode cX9_startsFrom 233 = .ok (.sipush 292, 3) := by decide +kernel
theorem dX9_startsFrom_236 : decode cX9_startsFrom 236 = .ok (.aload_n 0, 1) := by decide +kernel
theorem dX9_startsFrom_237 : decode cX9_startsFrom 237 = .ok (.getfield 389, 3) := by decide +kernel
theorem dX9_startsFrom_240 : decode cX9_startsFrom 240 = .ok (.getfield 367, 3) := by decide +kernel
theorem dX9_startsFrom_243 : decode cX9_startsFrom 243 = .ok (.iastore, 1) := by decide +kernel
theorem dX9_startsFrom_244 : decode cX9_startsFrom 244 = .ok (.aload_n 1, 1) := by decide +kernel
theorem dX9_startsFrom_245 : decode cX9_startsFrom 245 = .ok (.sipush 296, 3) := by decide +kernel
theorem dX9_startsFrom_248 : decode cX9_startsFrom 248 = .ok (.aload_n 0, 1) := by decide +kernel
theorem dX9_startsFrom_249 : decode cX9_startsFrom 249 = .ok (.getfield 389, 3) := by decide +kernel
theorem dX9_startsFrom_252 : decode cX9_startsFrom 252 = .ok (.getfield 278, 3) := by decide +kernel
theorem dX9_startsFrom_255 : decode cX9_startsFrom 255 = .ok (.iastore, 1) := by decide +kernel
theorem dX9_startsFrom_256 : decode cX9_startsFrom 256 = .ok (.return_, 1) := by decide +kernel
theorem dX9_cellOf_0 : decode cX9_cellOf 0 = .ok (.aload_n 0, 1) := by decide +kernel
theorem dX9_cellOf_1 : decode cX9_cellOf 1 = .ok (.iconst 0, 1) := by decide +kernel
theorem dX9_cellOf_2 : decode cX9_cellOf 2 = .ok (.aload_n 0, 1) := by decide +kernel
theorem dX9_cellOf_3 : decode cX9_cellOf 3 = .ok (.sipush 220, 3) := by decide +kernel
theorem dX9_cellOf_6 : decode cX9_cellOf 6 = .ok (.iload_n 1, 1) := by decide +kernel
theorem dX9_cellOf_7 : decode cX9_cellOf 7 = .ok (.iadd, 1) := by decide +kernel
theorem dX9_cellOf_8 : decode cX9_cellOf 8 = .ok (.iaload, 1) := by decide +kernel
theorem dX9_cellOf_9 : decode cX9_cellOf 9 = .ok (.iadd, 1) := by decide +kernel
theorem dX9_cellOf_10 : decode cX9_cellOf 10 = .ok (.iaload, 1) := by decide +kernel
theorem dX9_cellOf_11 : decode cX9_cellOf 11 = .ok (.ireturn, 1) := by decide +kernel
theorem dX9_gapOf_0 : decode cX9_gapOf 0 = .ok (.aload_n 0, 1) := by decide +kernel
theorem dX9_gapOf_1 : decode cX9_gapOf 1 = .ok (.sipush 220, 3) := by decide +kernel
theorem dX9_gapOf_4 : decode cX9_gapOf 4 = .ok (.iload_n 1, 1) := by decide +kernel
theorem dX9_gapOf_5 : decode cX9_gapOf 5 = .ok (.iadd, 1) := by decide +kernel
theorem dX9_gapOf_6 : decode cX9_gapOf 6 = .ok (.iconst 1, 1) := by decide +kernel
theorem dX9_gapOf_7 : decode cX9_gapOf 7 = .ok (.isub, 1) := by decide +kernel
theorem dX9_gapOf_8 : decode cX9_gapOf 8 = .ok (.iaload, 1) := by decide +kernel
theorem dX9_gapOf_9 : decode cX9_gapOf 9 = .ok (.aload_n 0, 1) := by decide +kernel
theorem dX9_gapOf_10 : decode cX9_gapOf 10 = .ok (.sipush 220, 3) := by decide +kernel
theorem dX9_gapOf_13 : decode cX9_gapOf 13 = .ok (.iload_n 1, 1) := by decide +kernel
theorem dX9_gapOf_14 : decode cX9_gapOf 14 = .ok (.iadd, 1) := by decide +kernel
theorem dX9_gapOf_15 : decode cX9_gapOf 15 = .ok (.iaload, 1) := by decide +kernel
theorem dX9_gapOf_16 : decode cX9_gapOf 16 = .ok (.isub, 1) := by decide +kernel
theorem dX9_gapOf_17 : decode cX9_gapOf 17 = .ok (.iconst 1, 1) := by decide +kernel
theorem dX9_gapOf_18 : decode cX9_gapOf 18 = .ok (.isub, 1) := by decide +kernel
theorem dX9_gapOf_19 : decode cX9_gapOf 19 = .ok (.ireturn, 1) := by decide +kernel
theorem dX9_overBy_0 : decode cX9_overBy 0 = .ok (.aload_n 0, 1) := by decide +kernel
theorem dX9_overBy_1 : decode cX9_overBy 1 = .ok (.sipush 297, 3) := by decide +kernel
theorem dX9_overBy_4 : decode cX9_overBy 4 = .ok (.iaload, 1) := by decide +kernel
theorem dX9_overBy_5 : decode cX9_overBy 5 = .ok (.iconst 1, 1) := by decide +kernel
theorem dX9_overBy_6 : decode cX9_overBy 6 = .ok (.if_icmp .ne 7, 3) := by decide +kernel
theorem dX9_overBy_9 : decode cX9_overBy 9 = .ok (.iconst 1, 1) := by decide +kernel
theorem dX9_overBy_10 : decode cX9_overBy 10 = .ok (.goto 19, 3) := by decide +kernel
theorem dX9_overBy_13 : decode cX9_overBy 13 = .ok (.aload_n 0, 1) := by decide +kernel
theorem dX9_overBy_14 : decode cX9_overBy 14 = .ok (.sipush 288, 3) := by decide +kernel
theorem dX9_overBy_17 : decode cX9_overBy 17 = .ok (.iaload, 1) := by decide +kernel
theorem dX9_overBy_18 : decode cX9_overBy 18 = .ok (.sipush 200, 3) := by decide +kernel
theorem dX9_overBy_21 : decode cX9_overBy 21 = .ok (.if_icmp .le 7, 3) := by decide +kernel
theorem dX9_overBy_24 : decode cX9_overBy 24 = .ok (.iconst 2, 1) := by decide +kernel
theorem dX9_overBy_25 : decode cX9_overBy 25 = .ok (.goto 4, 3) := by decide +kernel
theorem dX9_overBy_28 : decode cX9_overBy 28 = .ok (.iconst 0, 1) := by decide +kernel
theorem dX9_overBy_29 : decode cX9_overBy 29 = .ok (.ireturn, 1) := by decide +kernel
theorem dX9_sideFrom_0 : decode cX9_sideFrom 0 = .ok (.iconst 0, 1) := by decide +kernel
theorem dX9_sideFrom_1 : decode cX9_sideFrom 1 = .ok (.istore_n 3, 1) := by decide +kernel
theorem dX9_sideFrom_2 : decode cX9_sideFrom 2 = .ok (.aload_n 0, 1) := by decide +kernel
theorem dX9_sideFrom_3 : decode cX9_sideFrom 3 = .ok (.getfield 389, 3) := by decide +kernel
theorem dX9_sideFrom_6 : decode cX9_sideFrom 6 = .ok (.aload_n 1, 1) := by decide +kernel
theorem dX9_sideFrom_7 : decode cX9_sideFrom 7 = .ok (.iconst 0, 1) := by decide +kernel
theorem dX9_sideFrom_8 : decode cX9_sideFrom 8 = .ok (.iload_n 2, 1) := by decide +kernel
theorem dX9_sideFrom_9 : decode cX9_sideFrom 9 = .ok (.iadd, 1) := by decide +kernel
theorem dX9_sideFrom_10 : decode cX9_sideFrom 10 = .ok (.iaload, 1) := by decide +kernel
theorem dX9_sideFrom_11 : decode cX9_sideFrom 11 = .ok (.iload_n 3, 1) := by decide +kernel
theorem dX9_sideFrom_12 : decode cX9_sideFrom 12 = .ok (.invokevirtual 364, 3) := by decide +kernel
theorem dX9_sideFrom_15 : decode cX9_sideFrom 15 = .ok (.aload_n 1, 1) := by decide +kernel
theorem dX9_sideFrom_16 : decode cX9_sideFrom 16 = .ok (.iconst 0, 1) := by decide +kernel
theorem dX9_sideFrom_17 : decode cX9_sideFrom 17 = .ok (.iload_n 2, 1) := by decide +kernel
theorem dX9_sideFrom_18 : decode cX9_sideFrom 18 = .ok (.iadd, 1) := by decide +kernel
theorem dX9_sideFrom_19 : decode cX9_sideFrom 19 = .ok (.iconst 1, 1) := by decide +kernel
theorem dX9_sideFrom_20 : decode cX9_sideFrom 20 = .ok (.iadd, 1) := by decide +kernel
theorem dX9_sideFrom_21 : decode cX9_sideFrom 21 = .ok (.iaload, 1) := by decide +kernel
theorem dX9_sideFrom_22 : decode cX9_sideFrom 22 = .ok (.if_icmp .eq 9, 3) := by decide +kernel
theorem dX9_sideFrom_25 : decode cX9_sideFrom 25 = .ok (.iinc 3 1, 3) := by decide +kernel
theorem dX9_sideFrom_28 : decode cX9_sideFrom 28 = .ok (.goto (-26), 3) := by decide +kernel
theorem dX9_sideFrom_31 : decode cX9_sideFrom 31 = .ok (.iload_n 3, 1) := by decide +kernel
theorem dX9_sideFrom_32 : decode cX9_sideFrom 32 = .ok (.ireturn, 1) := by decide +kernel
theorem dX9_turnsAt_0 : decode cX9_turnsAt 0 = .ok (.iload_n 2, 1) := by decide +kernel
theorem dX9_turnsAt_1 : decode cX9_turnsAt 1 = .ok (.ifCond .le 35, 3) := by decide +kernel
theorem dX9_turnsAt_4 : decode cX9_turnsAt 4 = .ok (.iload_n 2, 1) := by decide +kernel
theorem dX9_turnsAt_5 : decode cX9_turnsAt 5 = .ok (.iconst 1, 1) := by decide +kernel
theorem dX9_turnsAt_6 : decode cX9_turnsAt 6 = .ok (.iadd, 1) := by decide +kernel
theorem dX9_turnsAt_7 : decode cX9_turnsAt 7 = .ok (.aload_n 1, 1) := by decide +kernel
theorem dX9_turnsAt_8 : decode cX9_turnsAt 8 = .ok (.sipush 288, 3) := by decide +kernel
theorem dX9_turnsAt_11 : decode cX9_turnsAt 11 = .ok (.iaload, 1) := by decide +kernel
theorem dX9_turnsAt_12 : decode cX9_turnsAt 12 = .ok (.if_icmp .ge 24, 3) := by decide +kernel
theorem dX9_turnsAt_15 : decode cX9_turnsAt 15 = .ok (.aload_n 0, 1) := by decide +kernel
theorem dX9_turnsAt_16 : decode cX9_turnsAt 16 = .ok (.aload_n 1, 1) := by decide +kernel
theorem dX9_turnsAt_17 : decode cX9_turnsAt 17 = .ok (.iload_n 2, 1) := by decide +kernel
theorem dX9_turnsAt_18 : decode cX9_turnsAt 18 = .ok (.iconst 1, 1) := by decide +kernel
theorem dX9_turnsAt_19 : decode cX9_turnsAt 19 = .ok (.isub, 1) := by decide +kernel
theorem dX9_turnsAt_20 : decode cX9_turnsAt 20 = .ok (.invokevirtual 401, 3) := by decide +kernel
theorem dX9_turnsAt_23 : decode cX9_turnsAt 23 = .ok (.aload_n 0, 1) := by decide +kernel
theorem dX9_turnsAt_24 : decode cX9_turnsAt 24 = .ok (.aload_n 1, 1) := by decide +kernel
theorem dX9_turnsAt_25 : decode cX9_turnsAt 25 = .ok (.iload_n 2, 1) := by decide +kernel
theorem dX9_turnsAt_26 : decode cX9_turnsAt 26 = .ok (.invokevirtual 401, 3) := by decide +kernel
theorem dX9_turnsAt_29 : decode cX9_turnsAt 29 = .ok (.if_icmp .eq 7, 3) := by decide +kernel
theorem dX9_turnsAt_32 : decode cX9_turnsAt 32 = .ok (.iconst 1, 1) := by decide +kernel
theorem dX9_turnsAt_33 : decode cX9_turnsAt 33 = .ok (.goto 4, 3) := by decide +kernel
theorem dX9_turnsAt_36 : decode cX9_turnsAt 36 = .ok (.iconst 0, 1) := by decide +kernel
theorem dX9_turnsAt_37 : decode cX9_turnsAt 37 = .ok (.ireturn, 1) := by decide +kernel
theorem dX9_laysFar_0 : decode cX9_laysFar 0 = .ok (.iconst 0, 1) := by decide +kernel
theorem dX9_laysFar_1 : decode cX9_laysFar 1 = .ok (.istore_n 3, 1) := by decide +kernel
theorem dX9_laysFar_2 : decode cX9_laysFar 2 = .ok (.iload_n 3, 1) := by decide +kernel
theorem dX9_laysFar_3 : decode cX9_laysFar 3 = .ok (.bipush 48, 2) := by decide +kernel
theorem dX9_laysFar_5 : decode cX9_laysFar 5 = .ok (.if_icmp .ge 17, 3) := by decide +kernel
theorem dX9_laysFar_8 : decode cX9_laysFar 8 = .ok (.aload_n 0, 1) := by decide +kernel
theorem dX9_laysFar_9 : decode cX9_laysFar 9 = .ok (.getfield 33, 3) := by decide +kernel
theorem dX9_laysFar_12 : decode cX9_laysFar 12 = .ok (.iload_n 3, 1) := by decide +kernel
theorem dX9_laysFar_13 : decode cX9_laysFar 13 = .ok (.bipush (-2), 2) := by decide +kernel
theorem dX9_laysFar_15 : decode cX9_laysFar 15 = .ok (.iastore, 1) := by decide +kernel
theorem dX9_laysFar_16 : decode cX9_laysFar 16 = .ok (.iinc 3 1, 3) := by decide +kernel
theorem dX9_laysFar_19 : decode cX9_laysFar 19 = .ok (.goto (-17), 3) := by decide +kernel
theorem dX9_laysFar_22 : decode cX9_laysFar 22 = .ok (.iload_n 1, 1) := by decide +kernel
theorem dX9_laysFar_23 : decode cX9_laysFar 23 = .ok (.bipush (-2), 2) := by decide +kernel
theorem dX9_laysFar_25 : decode cX9_laysFar 25 = .ok (.if_icmp .eq 14, 3) := by decide +kernel
theorem dX9_laysFar_28 : decode cX9_laysFar 28 = .ok (.aload_n 0, 1) := by decide +kernel
theorem dX9_laysFar_29 : decode cX9_laysFar 29 = .ok (.getfield 389, 3) := by decide +kernel
theorem dX9_laysFar_32 : decode cX9_laysFar 32 = .ok (.iload_n 1, 1) := by decide +kernel
theorem dX9_laysFar_33 : decode cX9_laysFar 33 = .ok (.invokevirtual 361, 3) := by decide +kernel
theorem dX9_laysFar_36 : decode cX9_laysFar 36 = .ok (.ifCond .ne 4, 3) := by decide +kernel
theorem dX9_laysFar_39 : decode cX9_laysFar 39 = .ok (.return_, 1) := by decide +kernel
theorem dX9_laysFar_40 : decode cX9_laysFar 40 = .ok (.aload_n 0, 1) := by decide +kernel
theorem dX9_laysFar_41 : decode cX9_laysFar 41 = .ok (.getfield 33, 3) := by decide +kernel
theorem dX9_laysFar_44 : decode cX9_laysFar 44 = .ok (.iload_n 1, 1) := by decide +kernel
theorem dX9_laysFar_45 : decode cX9_laysFar 45 = .ok (.iconst 0, 1) := by decide +kernel
theorem dX9_laysFar_46 : decode cX9_laysFar 46 = .ok (.iastore, 1) := by decide +kernel
theorem dX9_laysFar_47 : decode cX9_laysFar 47 = .ok (.aload_n 0, 1) := by decide +kernel
theorem dX9_laysFar_48 : decode cX9_laysFar 48 = .ok (.getfield 36, 3) := by decide +kernel
theorem dX9_laysFar_51 : decode cX9_laysFar 51 = .ok (.iconst 0, 1) := by decide +kernel
theorem dX9_laysFar_52 : decode cX9_laysFar 52 = .ok (.iload_n 1, 1) := by decide +kernel
theorem dX9_laysFar_53 : decode cX9_laysFar 53 = .ok (.iastore, 1) := by decide +kernel
theorem dX9_laysFar_54 : decode cX9_laysFar 54 = .ok (.iconst 1, 1) := by decide +kernel
theorem dX9_laysFar_55 : decode cX9_laysFar 55 = .ok (.istore_n 3, 1) := by decide +kernel
theorem dX9_laysFar_56 : decode cX9_laysFar 56 = .ok (.iconst 0, 1) := by decide +kernel
theorem dX9_laysFar_57 : decode cX9_laysFar 57 = .ok (.istore 4, 2) := by decide +kernel
theorem dX9_laysFar_59 : decode cX9_laysFar 59 = .ok (.iload 4, 2) := by decide +kernel
theorem dX9_laysFar_61 : decode cX9_laysFar 61 = .ok (.iload_n 3, 1) := by decide +kernel
theorem dX9_laysFar_62 : decode cX9_laysFar 62 = .ok (.if_icmp .ge 115, 3) := by decide +kernel
theorem dX9_laysFar_65 : decode cX9_laysFar 65 = .ok (.iconst 0, 1) := by decide +kernel
theorem dX9_laysFar_66 : decode cX9_laysFar 66 = .ok (.istore 5, 2) := by decide +kernel
theorem dX9_laysFar_68 : decode cX9_laysFar 68 = .ok (.iload 5, 2) := by decide +kernel
theorem dX9_laysFar_70 : decode cX9_laysFar 70 = .ok (.iconst 4, 1) := by decide +kernel
theorem dX9_laysFar_71 : decode cX9_laysFar 71 = .ok (.if_icmp .ge 100, 3) := by decide +kernel
theorem dX9_laysFar_74 : decode cX9_laysFar 74 = .ok (.aload_n 0, 1) := by decide +kernel
theorem dX9_laysFar_75 : decode cX9_laysFar 75 = .ok (.getfield 389, 3) := by decide +kernel
theorem dX9_laysFar_78 : decode cX9_laysFar 78 = .ok (.aload_n 0, 1) := by decide +kernel
theorem dX9_laysFar_79 : decode cX9_laysFar 79 = .ok (.getfield 36, 3) := by decide +kernel
theorem dX9_laysFar_82 : decode cX9_laysFar 82 = .ok (.iload 4, 2) := by decide +kernel
theorem dX9_laysFar_84 : decode cX9_laysFar 84 = .ok (.iaload, 1) := by decide +kernel
theorem dX9_laysFar_85 : decode cX9_laysFar 85 = .ok (.iload 5, 2) := by decide +kernel
theorem dX9_laysFar_87 : decode cX9_laysFar 87 = .ok (.invokevirtual 364, 3) := by decide +kernel
theorem dX9_laysFar_90 : decode cX9_laysFar 90 = .ok (.istore 6, 2) := by decide +kernel
theorem dX9_laysFar_92 : decode cX9_laysFar 92 = .ok (.aload_n 0, 1) := by decide +kernel
theorem dX9_laysFar_93 : decode cX9_laysFar 93 = .ok (.getfield 389, 3) := by decide +kernel
theorem dX9_laysFar_96 : decode cX9_laysFar 96 = .ok (.iload 6, 2) := by decide +kernel
theorem dX9_laysFar_98 : decode cX9_laysFar 98 = .ok (.invokevirtual 361, 3) := by decide +kernel
theorem dX9_laysFar_101 : decode cX9_laysFar 101 = .ok (.ifCond .eq 64, 3) := by decide +kernel
theorem dX9_laysFar_104 : decode cX9_laysFar 104 = .ok (.aload_n 0, 1) := by decide +kernel
theorem dX9_laysFar_105 : decode cX9_laysFar 105 = .ok (.getfield 33, 3) := by decide +kernel
theorem dX9_laysFar_108 : decode cX9_laysFar 108 = .ok (.iload 6, 2) := by decide +kernel
theorem dX9_laysFar_110 : decode cX9_laysFar 110 = .ok (.iaload, 1) := by decide +kernel
theorem dX9_laysFar_111 : decode cX9_laysFar 111 = .ok (.bipush (-2), 2) := by decide +kernel
theorem dX9_laysFar_113 : decode cX9_laysFar 113 = .ok (.if_icmp .ne 52, 3) := by decide +kernel
theorem dX9_laysFar_116 : decode cX9_laysFar 116 = .ok (.aload_n 2, 1) := by decide +kernel
theorem dX9_laysFar_117 : decode cX9_laysFar 117 = .ok (.ifnull 16, 3) := by decide +kernel
theorem dX9_laysFar_120 : decode cX9_laysFar 120 = .ok (.aload_n 2, 1) := by decide +kernel
theorem dX9_laysFar_121 : decode cX9_laysFar 121 = .ok (.iload 6, 2) := by decide +kernel
theorem dX9_laysFar_123 : decode cX9_laysFar 123 = .ok (.iconst (-1), 1) := by decide +kernel
theorem dX9_laysFar_124 : decode cX9_laysFar 124 = .ok (.invokestatic 405, 3) := by decide +kernel
theorem dX9_laysFar_127 : decode cX9_laysFar 127 = .ok (.ifCond .eq 6, 3) := by decide +kernel
theorem dX9_laysFar_130 : decode cX9_laysFar 130 = .ok (.goto 35, 3) := by decide +kernel
theorem dX9_laysFar_133 : decode cX9_laysFar 133 = .ok (.aload_n 0, 1) := by decide +kernel
theorem dX9_laysFar_134 : decode cX9_laysFar 134 = .ok (.getfield 33, 3) := by decide +kernel
theorem dX9_laysFar_137 : decode cX9_laysFar 137 = .ok (.iload 6, 2) := by decide +kernel
theorem dX9_laysFar_139 : decode cX9_laysFar 139 = .ok (.aload_n 0, 1) := by decide +kernel
theorem dX9_laysFar_140 : decode cX9_laysFar 140 = .ok (.getfield 33, 3) := by decide +kernel
theorem dX9_laysFar_143 : decode cX9_laysFar 143 = .ok (.aload_n 0, 1) := by decide +kernel
theorem dX9_laysFar_144 : decode cX9_laysFar 144 = .ok (.getfield 36, 3) := by decide +kernel
theorem dX9_laysFar_147 : decode cX9_laysFar 147 = .ok (.iload 4, 2) := by decide +kernel
theorem dX9_laysFar_149 : decode cX9_laysFar 149 = .ok (.iaload, 1) := by decide +kernel
theorem dX9_laysFar_150 : decode cX9_laysFar 150 = .ok (.iaload, 1) := by decide +kernel
theorem dX9_laysFar_151 : decode cX9_laysFar 151 = .ok (.iconst 1, 1) := by decide +kernel
theorem dX9_laysFar_152 : decode cX9_laysFar 152 = .ok (.iadd, 1) := by decide +kernel
theorem dX9_laysFar_153 : decode cX9_laysFar 153 = .ok (.iastore, 1) := by decide +kernel
theorem dX9_laysFar_154 : decode cX9_laysFar 154 = .ok (.aload_n 0, 1) := by decide +kernel
theorem dX9_laysFar_155 : decode cX9_laysFar 155 = .ok (.getfield 36, 3) := by decide +kernel
theorem dX9_laysFar_158 : decode cX9_laysFar 158 = .ok (.iload_n 3, 1) := by decide +kernel
theorem dX9_laysFar_159 : decode cX9_laysFar 159 = .ok (.iload 6, 2) := by decide +kernel
theorem dX9_laysFar_161 : decode cX9_laysFar 161 = .ok (.iastore, 1) := by decide +kernel
theorem dX9_laysFar_162 : decode cX9_laysFar 162 = .ok (.iinc 3 1, 3) := by decide +kernel
theorem dX9_laysFar_165 : decode cX9_laysFar 165 = .ok (.iinc 5 1, 3) := by decide +kernel
theorem dX9_laysFar_168 : decode cX9_laysFar 168 = .ok (.goto (-100), 3) := by decide +kernel
theorem dX9_laysFar_171 : decode cX9_laysFar 171 = .ok (.iinc 4 1, 3) := by decide +kernel
theorem dX9_laysFar_174 : decode cX9_laysFar 174 = .ok (.goto (-115), 3) := by decide +kernel
theorem dX9_laysFar_177 : decode cX9_laysFar 177 = .ok (.return_, 1) := by decide +kernel
theorem dX9_isStoodOn_0 : decode cX9_isStoodOn 0 = .ok (.iconst 0, 1) := by decide +kernel
theorem dX9_isStoodOn_1 : decode cX9_isStoodOn 1 = .ok (.istore_n 3, 1) := by decide +kernel
theorem dX9_isStoodOn_2 : decode cX9_isStoodOn 2 = .ok (.iload_n 3, 1) := by decide +kernel
theorem dX9_isStoodOn_3 : decode cX9_isStoodOn 3 = .ok (.aload_n 0, 1) := by decide +kernel
theorem dX9_isStoodOn_4 : decode cX9_isStoodOn 4 = .ok (.sipush 289, 3) := by decide +kernel
theorem dX9_isStoodOn_7 : decode cX9_isStoodOn 7 = .ok (.iaload, 1) := by decide +kernel
theorem dX9_isStoodOn_8 : decode cX9_isStoodOn 8 = .ok (.if_icmp .ge 25, 3) := by decide +kernel
theorem dX9_isStoodOn_11 : decode cX9_isStoodOn 11 = .ok (.iload_n 3, 1) := by decide +kernel
theorem dX9_isStoodOn_12 : decode cX9_isStoodOn 12 = .ok (.iload_n 2, 1) := by decide +kernel
theorem dX9_isStoodOn_13 : decode cX9_isStoodOn 13 = .ok (.if_icmp .eq 14, 3) := by decide +kernel
theorem dX9_isStoodOn_16 : decode cX9_isStoodOn 16 = .ok (.aload_n 0, 1) := by decide +kernel
theorem dX9_isStoodOn_17 : decode cX9_isStoodOn 17 = .ok (.iload_n 3, 1) := by decide +kernel
theorem dX9_isStoodOn_18 : decode cX9_isStoodOn 18 = .ok (.invokestatic 409, 3) := by decide +kernel
theorem dX9_isStoodOn_21 : decode cX9_isStoodOn 21 = .ok (.iload_n 1, 1) := by decide +kernel
theorem dX9_isStoodOn_22 : decode cX9_isStoodOn 22 = .ok (.if_icmp .ne 5, 3) := by decide +kernel
theorem dX9_isStoodOn_25 : decode cX9_isStoodOn 25 = .ok (.iconst 1, 1) := by decide +kernel
theorem dX9_isStoodOn_26 : decode cX9_isStoodOn 26 = .ok (.ireturn, 1) := by decide +kernel
theorem dX9_isStoodOn_27 : decode cX9_isStoodOn 27 = .ok (.iinc 3 1, 3) := by decide +kernel
theorem dX9_isStoodOn_30 : decode cX9_isStoodOn 30 = .ok (.goto (-28), 3) := by decide +kernel
theorem dX9_isStoodOn_33 : decode cX9_isStoodOn 33 = .ok (.iconst 0, 1) := by decide +kernel
theorem dX9_isStoodOn_34 : decode cX9_isStoodOn 34 = .ok (.ireturn, 1) := by decide +kernel
theorem dX9_canGo_0 : decode cX9_canGo 0 = .ok (.aload_n 0, 1) := by decide +kernel
theorem dX9_canGo_1 : decode cX9_canGo 1 = .ok (.getfield 389, 3) := by decide +kernel
theorem dX9_canGo_4 : decode cX9_canGo 4 = .ok (.aload_n 1, 1) := by decide +kernel
theorem dX9_canGo_5 : decode cX9_canGo 5 = .ok (.iconst 0, 1) := by decide +kernel
theorem dX9_canGo_6 : decode cX9_canGo 6 = .ok (.aload_n 1, 1) := by decide +kernel
theorem dX9_canGo_7 : decode cX9_canGo 7 = .ok (.sipush 288, 3) := by decide +kernel
theorem dX9_canGo_10 : decode cX9_canGo 10 = .ok (.iaload, 1) := by decide +kernel
theorem dX9_canGo_11 : decode cX9_canGo 11 = .ok (.iadd, 1) := by decide +kernel
theorem dX9_canGo_12 : decode cX9_canGo 12 = .ok (.iconst 1, 1) := by decide +kernel
theorem dX9_canGo_13 : decode cX9_canGo 13 = .ok (.isub, 1) := by decide +kernel
theorem dX9_canGo_14 : decode cX9_canGo 14 = .ok (.iaload, 1) := by decide +kernel
theorem dX9_canGo_15 : decode cX9_canGo 15 = .ok (.iload_n 2, 1) := by decide +kernel
theorem dX9_canGo_16 : decode cX9_canGo 16 = .ok (.invokevirtual 364, 3) := by decide +kernel
theorem dX9_canGo_19 : decode cX9_canGo 19 = .ok (.istore_n 3, 1) := by decide +kernel
theorem dX9_canGo_20 : decode cX9_canGo 20 = .ok (.aload_n 0, 1) := by decide +kernel
theorem dX9_canGo_21 : decode cX9_canGo 21 = .ok (.getfield 389, 3) := by decide +kernel
theorem dX9_canGo_24 : decode cX9_canGo 24 = .ok (.iload_n 3, 1) := by decide +kernel
theorem dX9_canGo_25 : decode cX9_canGo 25 = .ok (.invokevirtual 361, 3) := by decide +kernel
theorem dX9_canGo_28 : decode cX9_canGo 28 = .ok (.ifCond .ne 5, 3) := by decide +kernel
theorem dX9_canGo_31 : decode cX9_canGo 31 = .ok (.iconst 0, 1) := by decide +kernel
theorem dX9_canGo_32 : decode cX9_canGo 32 = .ok (.ireturn, 1) := by decide +kernel
theorem dX9_canGo_33 : decode cX9_canGo 33 = .ok (.aload_n 0, 1) := by decide +kernel
theorem dX9_canGo_34 : decode cX9_canGo 34 = .ok (.getfield 389, 3) := by decide +kernel
theorem dX9_canGo_37 : decode cX9_canGo 37 = .ok (.getfield 263, 3) := by decide +kernel
theorem dX9_canGo_40 : decode cX9_canGo 40 = .ok (.ifCond .eq 12, 3) := by decide +kernel
theorem dX9_canGo_43 : decode cX9_canGo 43 = .ok (.aload_n 1, 1) := by decide +kernel
theorem dX9_canGo_44 : decode cX9_canGo 44 = .ok (.iload_n 3, 1) := by decide +kernel
theorem dX9_canGo_45 : decode cX9_canGo 45 = .ok (.iconst 0, 1) := by decide +kernel
theorem dX9_canGo_46 : decode cX9_canGo 46 = .ok (.invokestatic 405, 3) := by decide +kernel
theorem dX9_canGo_49 : decode cX9_canGo 49 = .ok (.ifCond .ne 5, 3) := by decide +kernel
theorem dX9_canGo_52 : decode cX9_canGo 52 = .ok (.iconst 1, 1) := by decide +kernel
theorem dX9_canGo_53 : decode cX9_canGo 53 = .ok (.ireturn, 1) := by decide +kernel
theorem dX9_canGo_54 : decode cX9_canGo 54 = .ok (.aload_n 1, 1) := by decide +kernel
theorem dX9_canGo_55 : decode cX9_canGo 55 = .ok (.iload_n 3, 1) := by decide +kernel
theorem dX9_canGo_56 : decode cX9_canGo 56 = .ok (.invokestatic 412, 3) := by decide +kernel
theorem dX9_canGo_59 : decode cX9_canGo 59 = .ok (.ireturn, 1) := by decide +kernel
theorem dX9_closes_0 : decode cX9_closes 0 = .ok (.aload_n 0, 1) := by decide +kernel
theorem dX9_closes_1 : decode cX9_closes 1 = .ok (.sipush 289, 3) := by decide +kernel
theorem dX9_closes_4 : decode cX9_closes 4 = .ok (.iaload, 1) := by decide +kernel
theorem dX9_closes_5 : decode cX9_closes 5 = .ok (.iconst 2, 1) := by decide +kernel
theorem dX9_closes_6 : decode cX9_closes 6 = .ok (.if_icmp .le 22, 3) := by decide +kernel
theorem dX9_closes_9 : decode cX9_closes 9 = .ok (.aload_n 0, 1) := by decide +kernel
theorem dX9_closes_10 : decode cX9_closes 10 = .ok (.aload_n 0, 1) := by decide +kernel
theorem dX9_closes_11 : decode cX9_closes 11 = .ok (.sipush 289, 3) := by decide +kernel
theorem dX9_closes_14 : decode cX9_closes 14 = .ok (.iaload, 1) := by decide +kernel
theorem dX9_closes_15 : decode cX9_closes 15 = .ok (.iconst 1, 1) := by decide +kernel
theorem dX9_closes_16 : decode cX9_closes 16 = .ok (.isub, 1) := by decide +kernel
theorem dX9_closes_17 : decode cX9_closes 17 = .ok (.invokestatic 409, 3) := by decide +kernel
theorem dX9_closes_20 : decode cX9_closes 20 = .ok (.iload_n 1, 1) := by decide +kernel
theorem dX9_closes_21 : decode cX9_closes 21 = .ok (.if_icmp .ne 7, 3) := by decide +kernel
theorem dX9_closes_24 : decode cX9_closes 24 = .ok (.iconst 1, 1) := by decide +kernel
theorem dX9_closes_25 : decode cX9_closes 25 = .ok (.goto 4, 3) := by decide +kernel
theorem dX9_closes_28 : decode cX9_closes 28 = .ok (.iconst 0, 1) := by decide +kernel
theorem dX9_closes_29 : decode cX9_closes 29 = .ok (.ireturn, 1) := by decide +kernel
theorem dX9_leads_0 : decode cX9_leads 0 = .ok (.aload_n 1, 1) := by decide +kernel
theorem dX9_leads_1 : decode cX9_leads 1 = .ok (.sipush 292, 3) := by decide +kernel
theorem dX9_leads_4 : decode cX9_leads 4 = .ok (.iaload, 1) := by decide +kernel
theorem dX9_leads_5 : decode cX9_leads 5 = .ok (.istore_n 2, 1) := by decide +kernel
theorem dX9_leads_6 : decode cX9_leads 6 = .ok (.aload_n 1, 1) := by decide +kernel
theorem dX9_leads_7 : decode cX9_leads 7 = .ok (.sipush 291, 3) := by decide +kernel
theorem dX9_leads_10 : decode cX9_leads 10 = .ok (.iaload, 1) := by decide +kernel
theorem dX9_leads_11 : decode cX9_leads 11 = .ok (.tableswitch 93 0 4 #[33, 49, 65, 81, 87], 33) := by decide +kernel
theorem dX9_leads_44 : decode cX9_leads 44 = .ok (.aload_n 0, 1) := by decide +kernel
theorem dX9_leads_45 : decode cX9_leads 45 = .ok (.aload_n 1, 1) := by decide +kernel
theorem dX9_leads_46 : decode cX9_leads 46 = .ok (.iload_n 2, 1) := by decide +kernel
theorem dX9_leads_47 : decode cX9_leads 47 = .ok (.iload_n 2, 1) := by decide +kernel
theorem dX9_leads_48 : decode cX9_leads 48 = .ok (.iconst 1, 1) := by decide +kernel
theorem dX9_leads_49 : decode cX9_leads 49 = .ok (.iadd, 1) := by decide +kernel
theorem dX9_leads_50 : decode cX9_leads 50 = .ok (.iload_n 2, 1) := by decide +kernel
theorem dX9_leads_51 : decode cX9_leads 51 = .ok (.iconst 3, 1) := by decide +kernel
theorem dX9_leads_52 : decode cX9_leads 52 = .ok (.iadd, 1) := by decide +kernel
theorem dX9_leads_53 : decode cX9_leads 53 = .ok (.iload_n 2, 1) := by decide +kernel
theorem dX9_leads_54 : decode cX9_leads 54 = .ok (.iconst 2, 1) := by decide +kernel
theorem dX9_leads_55 : decode cX9_leads 55 = .ok (.iadd, 1) := by decide +kernel
theorem dX9_leads_56 : decode cX9_leads 56 = .ok (.invokevirtual 416, 3) := by decide +kernel
theorem dX9_leads_59 : decode cX9_leads 59 = .ok (.ireturn, 1) := by decide +kernel
theorem dX9_leads_60 : decode cX9_leads 60 = .ok (.aload_n 0, 1) := by decide +kernel
theorem dX9_leads_61 : decode cX9_leads 61 = .ok (.aload_n 1, 1) := by decide +kernel
theorem dX9_leads_62 : decode cX9_leads 62 = .ok (.iload_n 2, 1) := by decide +kernel
theorem dX9_leads_63 : decode cX9_leads 63 = .ok (.iconst 1, 1) := by decide +kernel
theorem dX9_leads_64 : decode cX9_leads 64 = .ok (.iadd, 1) := by decide +kernel
theorem dX9_leads_65 : decode cX9_leads 65 = .ok (.iload_n 2, 1) := by decide +kernel
theorem dX9_leads_66 : decode cX9_leads 66 = .ok (.iload_n 2, 1) := by decide +kernel
theorem dX9_leads_67 : decode cX9_leads 67 = .ok (.iconst 3, 1) := by decide +kernel
theorem dX9_leads_68 : decode cX9_leads 68 = .ok (.iadd, 1) := by decide +kernel
theorem dX9_leads_69 : decode cX9_leads 69 = .ok (.iload_n 2, 1) := by decide +kernel
theorem dX9_leads_70 : decode cX9_leads 70 = .ok (.iconst 2, 1) := by decide +kernel
theorem dX9_leads_71 : decode cX9_leads 71 = .ok (.iadd, 1) := by decide +kernel
theorem dX9_leads_72 : decode cX9_leads 72 = .ok (.invokevirtual 416, 3) := by decide +kernel
theorem dX9_leads_75 : decode cX9_leads 75 = .ok (.ireturn, 1) := by decide +kernel
theorem dX9_leads_76 : decode cX9_leads 76 = .ok (.aload_n 0, 1) := by decide +kernel
theorem dX9_leads_77 : decode cX9_leads 77 = .ok (.aload_n 1, 1) := by decide +kernel
theorem dX9_leads_78 : decode cX9_leads 78 = .ok (.iload_n 2, 1) := by decide +kernel
theorem dX9_leads_79 : decode cX9_leads 79 = .ok (.iconst 3, 1) := by decide +kernel
theorem dX9_leads_80 : decode cX9_leads 80 = .ok (.iadd, 1) := by decide +kernel
theorem dX9_leads_81 : decode cX9_leads 81 = .ok (.iload_n 2, 1) := by decide +kernel
theorem dX9_leads_82 : decode cX9_leads 82 = .ok (.iload_n 2, 1) := by decide +kernel
theorem dX9_leads_83 : decode cX9_leads 83 = .ok (.iconst 1, 1) := by decide +kernel
theorem dX9_leads_84 : decode cX9_leads 84 = .ok (.iadd, 1) := by decide +kernel
theorem dX9_leads_85 : decode cX9_leads 85 = .ok (.iload_n 2, 1) := by decide +kernel
theorem dX9_leads_86 : decode cX9_leads 86 = .ok (.iconst 2, 1) := by decide +kernel
theorem dX9_leads_87 : decode cX9_leads 87 = .ok (.iadd, 1) := by decide +kernel
theorem dX9_leads_88 : decode cX9_leads 88 = .ok (.invokevirtual 416, 3) := by decide +kernel
theorem dX9_leads_91 : decode cX9_leads 91 = .ok (.ireturn, 1) := by decide +kernel
theorem dX9_leads_92 : decode cX9_leads 92 = .ok (.aload_n 0, 1) := by decide +kernel
theorem dX9_leads_93 : decode cX9_leads 93 = .ok (.aload_n 1, 1) := by decide +kernel
theorem dX9_leads_94 : decode cX9_leads 94 = .ok (.invokevirtual 420, 3) := by decide +kernel
theorem dX9_leads_97 : decode cX9_leads 97 = .ok (.ireturn, 1) := by decide +kernel
theorem dX9_leads_98 : decode cX9_leads 98 = .ok (.aload_n 0, 1) := by decide +kernel
theorem dX9_leads_99 : decode cX9_leads 99 = .ok (.aload_n 1, 1) := by decide +kernel
theorem dX9_leads_100 : decode cX9_leads 100 = .ok (.invokevirtual 424, 3) := by decide +kernel
theorem dX9_leads_103 : decode cX9_leads 103 = .ok (.ireturn, 1) := by decide +kernel
theorem dX9_leads_104 : decode cX9_leads 104 = .ok (.aload_n 0, 1) := by decide +kernel
theorem dX9_leads_105 : decode cX9_leads 105 = .ok (.aload_n 1, 1) := by decide +kernel
theorem dX9_leads_106 : decode cX9_leads 106 = .ok (.invokevirtual 427, 3) := by decide +kernel
theorem dX9_leads_109 : decode cX9_leads 109 = .ok (.ireturn, 1) := by decide +kernel
theorem dX9_firstSide_0 : decode cX9_firstSide 0 = .ok (.aload_n 0, 1) := by decide +kernel
theorem dX9_firstSide_1 : decode cX9_firstSide 1 = .ok (.aload_n 1, 1) := by decide +kernel
theorem dX9_firstSide_2 : decode cX9_firstSide 2 = .ok (.iload_n 2, 1) := by decide +kernel
theorem dX9_firstSide_3 : decode cX9_firstSide 3 = .ok (.invokevirtual 430, 3) := by decide +kernel
theorem dX9_firstSide_6 : decode cX9_firstSide 6 = .ok (.ifCond .eq 9, 3) := by decide +kernel
theorem dX9_firstSide_9 : decode cX9_firstSide 9 = .ok (.iload_n 2, 1) := by decide +kernel
theorem dX9_firstSide_10 : decode cX9_firstSide 10 = .ok (.iconst 3, 1) := by decide +kernel
theorem dX9_firstSide_11 : decode cX9_firstSide 11 = .ok (.iand, 1) := by decide +kernel
theorem dX9_firstSide_12 : decode cX9_firstSide 12 = .ok (.goto 53, 3) := by decide +kernel
theorem dX9_firstSide_15 : decode cX9_firstSide 15 = .ok (.aload_n 0, 1) := by decide +kernel
theorem dX9_firstSide_16 : decode cX9_firstSide 16 = .ok (.aload_n 1, 1) := by decide +kernel
theorem dX9_firstSide_17 : decode cX9_firstSide 17 = .ok (.iload_n 3, 1) := by decide +kernel
theorem dX9_firstSide_18 : decode cX9_firstSide 18 = .ok (.invokevirtual 430, 3) := by decide +kernel
theorem dX9_firstSide_21 : decode cX9_firstSide 21 = .ok (.ifCond .eq 9, 3) := by decide +kernel
theorem dX9_firstSide_24 : decode cX9_firstSide 24 = .ok (.iload_n 3, 1) := by decide +kernel
theorem dX9_firstSide_25 : decode cX9_firstSide 25 = .ok (.iconst 3, 1) := by decide +kernel
theorem dX9_firstSide_26 : decode cX9_firstSide 26 = .ok (.iand, 1) := by decide +kernel
theorem dX9_firstSide_27 : decode cX9_firstSide 27 = .ok (.goto 38, 3) := by decide +kernel
theorem dX9_firstSide_30 : decode cX9_firstSide 30 = .ok (.aload_n 0, 1) := by decide +kernel
theorem dX9_firstSide_31 : decode cX9_firstSide 31 = .ok (.aload_n 1, 1) := by decide +kernel
theorem dX9_firstSide_32 : decode cX9_firstSide 32 = .ok (.iload 4, 2) := by decide +kernel
theorem dX9_firstSide_34 : decode cX9_firstSide 34 = .ok (.invokevirtual 430, 3) := by decide +kernel
theorem dX9_firstSide_37 : decode cX9_firstSide 37 = .ok (.ifCond .eq 10, 3) := by decide +kernel
theorem dX9_firstSide_40 : decode cX9_firstSide 40 = .ok (.iload 4, 2) := by decide +kernel
theorem dX9_firstSide_42 : decode cX9_firstSide 42 = .ok (.iconst 3, 1) := by decide +kernel
theorem dX9_firstSide_43 : decode cX9_firstSide 43 = .ok (.iand, 1) := by decide +kernel
theorem dX9_firstSide_44 : decode cX9_firstSide 44 = .ok (.goto 21, 3) := by decide +kernel
theorem dX9_firstSide_47 : decode cX9_firstSide 47 = .ok (.aload_n 0, 1) := by decide +kernel
theorem dX9_firstSide_48 : decode cX9_firstSide 48 = .ok (.aload_n 1, 1) := by decide +kernel
theorem dX9_firstSide_49 : decode cX9_firstSide 49 = .ok (.iload 5, 2) := by decide +kernel
theorem dX9_firstSide_51 : decode cX9_firstSide 51 = .ok (.invokevirtual 430, 3) := by decide +kernel
theorem dX9_firstSide_54 : decode cX9_firstSide 54 = .ok (.ifCond .eq 10, 3) := by decide +kernel
theorem dX9_firstSide_57 : decode cX9_firstSide 57 = .ok (.iload 5, 2) := by decide +kernel
theorem dX9_firstSide_59 : decode cX9_firstSide 59 = .ok (.iconst 3, 1) := by decide +kernel
theorem dX9_firstSide_60 : decode cX9_firstSide 60 = .ok (.iand, 1) := by decide +kernel
theorem dX9_firstSide_61 : decode cX9_firstSide 61 = .ok (.goto 4, 3) := by decide +kernel
theorem dX9_firstSide_64 : decode cX9_firstSide 64 = .ok (.iconst (-1), 1) := by decide +kernel
theorem dX9_firstSide_65 : decode cX9_firstSide 65 = .ok (.ireturn, 1) := by decide +kernel
theorem dX9_drawn_0 : decode cX9_drawn 0 = .ok (.aload_n 0, 1) := by decide +kernel
theorem dX9_drawn_1 : decode cX9_drawn 1 = .ok (.sipush 295, 3) := by decide +kernel
theorem dX9_drawn_4 : decode cX9_drawn 4 = .ok (.ldc2_w 433, 3) := by decide +kernel
theorem dX9_drawn_7 : decode cX9_drawn 7 = .ok (.aload_n 0, 1) := by decide +kernel
theorem dX9_drawn_8 : decode cX9_drawn 8 = .ok (.sipush 295, 3) := by decide +kernel
theorem dX9_drawn_11 : decode cX9_drawn 11 = .ok (.iaload, 1) := by decide +kernel
theorem dX9_drawn_12 : decode cX9_drawn 12 = .ok (.i2l, 1) := by decide +kernel
theorem dX9_drawn_13 : decode cX9_drawn 13 = .ok (.lmul, 1) := by decide +kernel
theorem dX9_drawn_14 : decode cX9_drawn 14 = .ok (.ldc2_w 435, 3) := by decide +kernel
theorem dX9_drawn_17 : decode cX9_drawn 17 = .ok (.ladd, 1) := by decide +kernel
theorem dX9_drawn_18 : decode cX9_drawn 18 = .ok (.ldc2_w 437, 3) := by decide +kernel
theorem dX9_drawn_21 : decode cX9_drawn 21 = .ok (.lrem, 1) := by decide +kernel
theorem dX9_drawn_22 : decode cX9_drawn 22 = .ok (.l2i, 1) := by decide +kernel
theorem dX9_drawn_23 : decode cX9_drawn 23 = .ok (.iastore, 1) := by decide +kernel
theorem dX9_drawn_24 : decode cX9_drawn 24 = .ok (.aload_n 0, 1) := by decide +kernel
theorem dX9_drawn_25 : decode cX9_drawn 25 = .ok (.sipush 295, 3) := by decide +kernel
theorem dX9_drawn_28 : decode cX9_drawn 28 = .ok (.iaload, 1) := by decide +kernel
theorem dX9_drawn_29 : decode cX9_drawn 29 = .ok (.ireturn, 1) := by decide +kernel
theorem dX9_sideByLot_0 : decode cX9_sideByLot 0 = .ok (.iconst 0, 1) := by decide +kernel
theorem dX9_sideByLot_1 : decode cX9_sideByLot 1 = .ok (.istore_n 2, 1) := by decide +kernel
theorem dX9_sideByLot_2 : decode cX9_sideByLot 2 = .ok (.iconst 0, 1) := by decide +kernel
theorem dX9_sideByLot_3 : decode cX9_sideByLot 3 = .ok (.istore_n 3, 1) := by decide +kernel
theorem dX9_sideByLot_4 : decode cX9_sideByLot 4 = .ok (.iload_n 3, 1) := by decide +kernel
theorem dX9_sideByLot_5 : decode cX9_sideByLot 5 = .ok (.iconst 4, 1) := by decide +kernel
theorem dX9_sideByLot_6 : decode cX9_sideByLot 6 = .ok (.if_icmp .ge 26, 3) := by decide +kernel
theorem dX9_sideByLot_9 : decode cX9_sideByLot 9 = .ok (.iload_n 2, 1) := by decide +kernel
theorem dX9_sideByLot_10 : decode cX9_sideByLot 10 = .ok (.aload_n 0, 1) := by decide +kernel
theorem dX9_sideByLot_11 : decode cX9_sideByLot 11 = .ok (.aload_n 1, 1) := by decide +kernel
theorem dX9_sideByLot_12 : decode cX9_sideByLot 12 = .ok (.iload_n 3, 1) := by decide +kernel
theorem dX9_sideByLot_13 : decode cX9_sideByLot 13 = .ok (.invokevirtual 430, 3) := by decide +kernel
theorem dX9_sideByLot_16 : decode cX9_sideByLot 16 = .ok (.ifCond .eq 7, 3) := by decide +kernel
theorem dX9_sideByLot_19 : decode cX9_sideByLot 19 = .ok (.iconst 1, 1) := by decide +kernel
theorem dX9_sideByLot_20 : decode cX9_sideByLot 20 = .ok (.goto 4, 3) := by decide +kernel
theorem dX9_sideByLot_23 : decode cX9_sideByLot 23 = .ok (.iconst 0, 1) := by decide +kernel
theorem dX9_sideByLot_24 : decode cX9_sideByLot 24 = .ok (.iadd, 1) := by decide +kernel
theorem dX9_sideByLot_25 : decode cX9_sideByLot 25 = .ok (.istore_n 2, 1) := by decide +kernel
theorem dX9_sideByLot_26 : decode cX9_sideByLot 26 = .ok (.iinc 3 1, 3) := by decide +kernel
theorem dX9_sideByLot_29 : decode cX9_sideByLot 29 = .ok (.goto (-25), 3) := by decide +kernel
theorem dX9_sideByLot_32 : decode cX9_sideByLot 32 = .ok (.iload_n 2, 1) := by decide +kernel
theorem dX9_sideByLot_33 : decode cX9_sideByLot 33 = .ok (.ifCond .ne 5, 3) := by decide +kernel
theorem dX9_sideByLot_36 : decode cX9_sideByLot 36 = .ok (.iconst (-1), 1) := by decide +kernel
theorem dX9_sideByLot_37 : decode cX9_sideByLot 37 = .ok (.ireturn, 1) := by decide +kernel
theorem dX9_sideByLot_38 : decode cX9_sideByLot 38 = .ok (.aload_n 1, 1) := by decide +kernel
theorem dX9_sideByLot_39 : decode cX9_sideByLot 39 = .ok (.invokestatic 439, 3) := by decide +kernel
theorem dX9_sideByLot_42 : decode cX9_sideByLot 42 = .ok (.iload_n 2, 1) := by decide +kernel
theorem dX9_sideByLot_43 : decode cX9_sideByLot 43 = .ok (.irem, 1) := by decide +kernel
theorem dX9_sideByLot_44 : decode cX9_sideByLot 44 = .ok (.istore_n 3, 1) := by decide +kernel
theorem dX9_sideByLot_45 : decode cX9_sideByLot 45 = .ok (.iconst 0, 1) := by decide +kernel
theorem dX9_sideByLot_46 : decode cX9_sideByLot 46 = .ok (.istore 4, 2) := by decide +kernel
theorem dX9_sideByLot_48 : decode cX9_sideByLot 48 = .ok (.aload_n 0, 1) := by decide +kernel
theorem dX9_sideByLot_49 : decode cX9_sideByLot 49 = .ok (.aload_n 1, 1) := by decide +kernel
theorem dX9_sideByLot_50 : decode cX9_sideByLot 50 = .ok (.iload 4, 2) := by decide +kernel
theorem dX9_sideByLot_52 : decode cX9_sideByLot 52 = .ok (.invokevirtual 430, 3) := by decide +kernel
theorem dX9_sideByLot_55 : decode cX9_sideByLot 55 = .ok (.ifCond .eq 7, 3) := by decide +kernel
theorem dX9_sideByLot_58 : decode cX9_sideByLot 58 = .ok (.iload_n 3, 1) := by decide +kernel
theorem dX9_sideByLot_59 : decode cX9_sideByLot 59 = .ok (.ifCond .le 27, 3) := by decide +kernel
theorem dX9_sideByLot_62 : decode cX9_sideByLot 62 = .ok (.iload_n 3, 1) := by decide +kernel
theorem dX9_sideByLot_63 : decode cX9_sideByLot 63 = .ok (.aload_n 0, 1) := by decide +kernel
theorem dX9_sideByLot_64 : decode cX9_sideByLot 64 = .ok (.aload_n 1, 1) := by decide +kernel
theorem dX9_sideByLot_65 : decode cX9_sideByLot 65 = .ok (.iload 4, 2) := by decide +kernel
theorem dX9_sideByLot_67 : decode cX9_sideByLot 67 = .ok (.invokevirtual 430, 3) := by decide +kernel
theorem dX9_sideByLot_70 : decode cX9_sideByLot 70 = .ok (.ifCond .eq 7, 3) := by decide +kernel
theorem dX9_sideByLot_73 : decode cX9_sideByLot 73 = .ok (.iconst 1, 1) := by decide +kernel
theorem dX9_sideByLot_74 : decode cX9_sideByLot 74 = .ok (.goto 4, 3) := by decide +kernel
theorem dX9_sideByLot_77 : decode cX9_sideByLot 77 = .ok (.iconst 0, 1) := by decide +kernel
theorem dX9_sideByLot_78 : decode cX9_sideByLot 78 = .ok (.isub, 1) := by decide +kernel
theorem dX9_sideByLot_79 : decode cX9_sideByLot 79 = .ok (.istore_n 3, 1) := by decide +kernel
theorem dX9_sideByLot_80 : decode cX9_sideByLot 80 = .ok (.iinc 4 1, 3) := by decide +kernel
theorem dX9_sideByLot_83 : decode cX9_sideByLot 83 = .ok (.goto (-35), 3) := by decide +kernel
theorem dX9_sideByLot_86 : decode cX9_sideByLot 86 = .ok (.iload 4, 2) := by decide +kernel
theorem dX9_sideByLot_88 : decode cX9_sideByLot 88 = .ok (.ireturn, 1) := by decide +kernel
theorem dX9_sideHome_0 : decode cX9_sideHome 0 = .ok (.aload_n 1, 1) := by decide +kernel
theorem dX9_sideHome_1 : decode cX9_sideHome 1 = .ok (.iconst 0, 1) := by decide +kernel
theorem dX9_sideHome_2 : decode cX9_sideHome 2 = .ok (.aload_n 1, 1) := by decide +kernel
theorem dX9_sideHome_3 : decode cX9_sideHome 3 = .ok (.sipush 288, 3) := by decide +kernel
theorem dX9_sideHome_6 : decode cX9_sideHome 6 = .ok (.iaload, 1) := by decide +kernel
theorem dX9_sideHome_7 : decode cX9_sideHome 7 = .ok (.iadd, 1) := by decide +kernel
theorem dX9_sideHome_8 : decode cX9_sideHome 8 = .ok (.iconst 1, 1) := by decide +kernel
theorem dX9_sideHome_9 : decode cX9_sideHome 9 = .ok (.isub, 1) := by decide +kernel
theorem dX9_sideHome_10 : decode cX9_sideHome 10 = .ok (.iaload, 1) := by decide +kernel
theorem dX9_sideHome_11 : decode cX9_sideHome 11 = .ok (.istore_n 2, 1) := by decide +kernel
theorem dX9_sideHome_12 : decode cX9_sideHome 12 = .ok (.iload_n 2, 1) := by decide +kernel
theorem dX9_sideHome_13 : decode cX9_sideHome 13 = .ok (.aload_n 0, 1) := by decide +kernel
theorem dX9_sideHome_14 : decode cX9_sideHome 14 = .ok (.getfield 389, 3) := by decide +kernel
theorem dX9_sideHome_17 : decode cX9_sideHome 17 = .ok (.getfield 287, 3) := by decide +kernel
theorem dX9_sideHome_20 : decode cX9_sideHome 20 = .ok (.if_icmp .ne 5, 3) := by decide +kernel
theorem dX9_sideHome_23 : decode cX9_sideHome 23 = .ok (.iconst (-1), 1) := by decide +kernel
theorem dX9_sideHome_24 : decode cX9_sideHome 24 = .ok (.ireturn, 1) := by decide +kernel
theorem dX9_sideHome_25 : decode cX9_sideHome 25 = .ok (.aload_n 0, 1) := by decide +kernel
theorem dX9_sideHome_26 : decode cX9_sideHome 26 = .ok (.aload_n 0, 1) := by decide +kernel
theorem dX9_sideHome_27 : decode cX9_sideHome 27 = .ok (.getfield 389, 3) := by decide +kernel
theorem dX9_sideHome_30 : decode cX9_sideHome 30 = .ok (.getfield 287, 3) := by decide +kernel
theorem dX9_sideHome_33 : decode cX9_sideHome 33 = .ok (.aconst_null, 1) := by decide +kernel
theorem dX9_sideHome_34 : decode cX9_sideHome 34 = .ok (.invokevirtual 442, 3) := by decide +kernel
theorem dX9_sideHome_37 : decode cX9_sideHome 37 = .ok (.iconst (-1), 1) := by decide +kernel
theorem dX9_sideHome_38 : decode cX9_sideHome 38 = .ok (.istore_n 3, 1) := by decide +kernel
theorem dX9_sideHome_39 : decode cX9_sideHome 39 = .ok (.iconst 0, 1) := by decide +kernel
theorem dX9_sideHome_40 : decode cX9_sideHome 40 = .ok (.istore 4, 2) := by decide +kernel
theorem dX9_sideHome_42 : decode cX9_sideHome 42 = .ok (.iconst 0, 1) := by decide +kernel
theorem dX9_sideHome_43 : decode cX9_sideHome 43 = .ok (.istore 5, 2) := by decide +kernel
theorem dX9_sideHome_45 : decode cX9_sideHome 45 = .ok (.iload 5, 2) := by decide +kernel
theorem dX9_sideHome_47 : decode cX9_sideHome 47 = .ok (.iconst 4, 1) := by decide +kernel
theorem dX9_sideHome_48 : decode cX9_sideHome 48 = .ok (.if_icmp .ge 68, 3) := by decide +kernel
theorem dX9_sideHome_51 : decode cX9_sideHome 51 = .ok (.aload_n 0, 1) := by decide +kernel
theorem dX9_sideHome_52 : decode cX9_sideHome 52 = .ok (.aload_n 1, 1) := by decide +kernel
theorem dX9_sideHome_53 : decode cX9_sideHome 53 = .ok (.iload 5, 2) := by decide +kernel
theorem dX9_sideHome_55 : decode cX9_sideHome 55 = .ok (.invokevirtual 430, 3) := by decide +kernel
theorem dX9_sideHome_58 : decode cX9_sideHome 58 = .ok (.ifCond .ne 6, 3) := by decide +kernel
theorem dX9_sideHome_61 : decode cX9_sideHome 61 = .ok (.goto 49, 3) := by decide +kernel
theorem dX9_sideHome_64 : decode cX9_sideHome 64 = .ok (.aload_n 0, 1) := by decide +kernel
theorem dX9_sideHome_65 : decode cX9_sideHome 65 = .ok (.getfield 33, 3) := by decide +kernel
theorem dX9_sideHome_68 : decode cX9_sideHome 68 = .ok (.aload_n 0, 1) := by decide +kernel
theorem dX9_sideHome_69 : decode cX9_sideHome 69 = .ok (.getfield 389, 3) := by decide +kernel
theorem dX9_sideHome_72 : decode cX9_sideHome 72 = .ok (.iload_n 2, 1) := by decide +kernel
theorem dX9_sideHome_73 : decode cX9_sideHome 73 = .ok (.iload 5, 2) := by decide +kernel
theorem dX9_sideHome_75 : decode cX9_sideHome 75 = .ok (.invokevirtual 364, 3) := by decide +kernel
theorem dX9_sideHome_78 : decode cX9_sideHome 78 = .ok (.iaload, 1) := by decide +kernel
theorem dX9_sideHome_79 : decode cX9_sideHome 79 = .ok (.istore 6, 2) := by decide +kernel
theorem dX9_sideHome_81 : decode cX9_sideHome 81 = .ok (.iload 6, 2) := by decide +kernel
theorem dX9_sideHome_83 : decode cX9_sideHome 83 = .ok (.bipush (-2), 2) := by decide +kernel
theorem dX9_sideHome_85 : decode cX9_sideHome 85 = .ok (.if_icmp .eq 25, 3) := by decide +kernel
theorem dX9_sideHome_88 : decode cX9_sideHome 88 = .ok (.iload_n 3, 1) := by decide +kernel
theorem dX9_sideHome_89 : decode cX9_sideHome 89 = .ok (.iconst (-1), 1) := by decide +kernel
theorem dX9_sideHome_90 : decode cX9_sideHome 90 = .ok (.if_icmp .eq 13, 3) := by decide +kernel
theorem dX9_sideHome_93 : decode cX9_sideHome 93 = .ok (.iload 6, 2) := by decide +kernel
theorem dX9_sideHome_95 : decode cX9_sideHome 95 = .ok (.iload 4, 2) := by decide +kernel
theorem dX9_sideHome_97 : decode cX9_sideHome 97 = .ok (.if_icmp .lt 6, 3) := by decide +kernel
theorem dX9_sideHome_100 : decode cX9_sideHome 100 = .ok (.goto 10, 3) := by decide +kernel
theorem dX9_sideHome_103 : decode cX9_sideHome 103 = .ok (.iload 5, 2) := by decide +kernel
theorem dX9_sideHome_105 : decode cX9_sideHome 105 = .ok (.istore_n 3, 1) := by decide +kernel
theorem dX9_sideHome_106 : decode cX9_sideHome 106 = .ok (.iload 6, 2) := by decide +kernel
theorem dX9_sideHome_108 : decode cX9_sideHome 108 = .ok (.istore 4, 2) := by decide +kernel
theorem dX9_sideHome_110 : decode cX9_sideHome 110 = .ok (.iinc 5 1, 3) := by decide +kernel
theorem dX9_sideHome_113 : decode cX9_sideHome 113 = .ok (.goto (-68), 3) := by decide +kernel
theorem dX9_sideHome_116 : decode cX9_sideHome 116 = .ok (.iload_n 3, 1) := by decide +kernel
theorem dX9_sideHome_117 : decode cX9_sideHome 117 = .ok (.ireturn, 1) := by decide +kernel
theorem dX9_sideTold_0 : decode cX9_sideTold 0 = .ok (.aload_n 1, 1) := by decide +kernel
theorem dX9_sideTold_1 : decode cX9_sideTold 1 = .ok (.sipush 293, 3) := by decide +kernel
theorem dX9_sideTold_4 : decode cX9_sideTold 4 = .ok (.iaload, 1) := by decide +kernel
theorem dX9_sideTold_5 : decode cX9_sideTold 5 = .ok (.aload_n 0, 1) := by decide +kernel
theorem dX9_sideTold_6 : decode cX9_sideTold 6 = .ok (.getfield 446, 3) := by decide +kernel
theorem dX9_sideTold_9 : decode cX9_sideTold 9 = .ok (.if_icmp .lt 5, 3) := by decide +kernel
theorem dX9_sideTold_12 : decode cX9_sideTold 12 = .ok (.iconst (-1), 1) := by decide +kernel
theorem dX9_sideTold_13 : decode cX9_sideTold 13 = .ok (.ireturn, 1) := by decide +kernel
theorem dX9_sideTold_14 : decode cX9_sideTold 14 = .ok (.aload_n 0, 1) := by decide +kernel
theorem dX9_sideTold_15 : decode cX9_sideTold 15 = .ok (.getfield 39, 3) := by decide +kernel
theorem dX9_sideTold_18 : decode cX9_sideTold 18 = .ok (.aload_n 1, 1) := by decide +kernel
theorem dX9_sideTold_19 : decode cX9_sideTold 19 = .ok (.sipush 293, 3) := by decide +kernel
theorem dX9_sideTold_22 : decode cX9_sideTold 22 = .ok (.iaload, 1) := by decide +kernel
theorem dX9_sideTold_23 : decode cX9_sideTold 23 = .ok (.iaload, 1) := by decide +kernel
theorem dX9_sideTold_24 : decode cX9_sideTold 24 = .ok (.istore_n 2, 1) := by decide +kernel
theorem dX9_sideTold_25 : decode cX9_sideTold 25 = .ok (.aload_n 1, 1) := by decide +kernel
theorem dX9_sideTold_26 : decode cX9_sideTold 26 = .ok (.sipush 293, 3) := by decide +kernel
theorem dX9_sideTold_29 : decode cX9_sideTold 29 = .ok (.dup2, 1) := by decide +kernel
theorem dX9_sideTold_30 : decode cX9_sideTold 30 = .ok (.iaload, 1) := by decide +kernel
theorem dX9_sideTold_31 : decode cX9_sideTold 31 = .ok (.iconst 1, 1) := by decide +kernel
theorem dX9_sideTold_32 : decode cX9_sideTold 32 = .ok (.iadd, 1) := by decide +kernel
theorem dX9_sideTold_33 : decode cX9_sideTold 33 = .ok (.iastore, 1) := by decide +kernel
theorem dX9_sideTold_34 : decode cX9_sideTold 34 = .ok (.aload_n 0, 1) := by decide +kernel
theorem dX9_sideTold_35 : decode cX9_sideTold 35 = .ok (.aload_n 1, 1) := by decide +kernel
theorem dX9_sideTold_36 : decode cX9_sideTold 36 = .ok (.iload_n 2, 1) := by decide +kernel
theorem dX9_sideTold_37 : decode cX9_sideTold 37 = .ok (.invokevirtual 430, 3) := by decide +kernel
theorem dX9_sideTold_40 : decode cX9_sideTold 40 = .ok (.ifCond .eq 7, 3) := by decide +kernel
theorem dX9_sideTold_43 : decode cX9_sideTold 43 = .ok (.iload_n 2, 1) := by decide +kernel
theorem dX9_sideTold_44 : decode cX9_sideTold 44 = .ok (.goto 4, 3) := by decide +kernel
theorem dX9_sideTold_47 : decode cX9_sideTold 47 = .ok (.iconst (-1), 1) := by decide +kernel
theorem dX9_sideTold_48 : decode cX9_sideTold 48 = .ok (.ireturn, 1) := by decide +kernel
theorem dX9_frontGoes_0 : decode cX9_frontGoes 0 = .ok (.aload_n 1, 1) := by decide +kernel
theorem dX9_frontGoes_1 : decode cX9_frontGoes 1 = .ok (.sipush 288, 3) := by decide +kernel
theorem dX9_frontGoes_4 : decode cX9_frontGoes 4 = .ok (.iaload, 1) := by decide +kernel
theorem dX9_frontGoes_5 : decode cX9_frontGoes 5 = .ok (.istore_n 3, 1) := by decide +kernel
theorem dX9_frontGoes_6 : decode cX9_frontGoes 6 = .ok (.iconst 0, 1) := by decide +kernel
theorem dX9_frontGoes_7 : decode cX9_frontGoes 7 = .ok (.istore 4, 2) := by decide +kernel
theorem dX9_frontGoes_9 : decode cX9_frontGoes 9 = .ok (.iload 4, 2) := by decide +kernel
theorem dX9_frontGoes_11 : decode cX9_frontGoes 11 = .ok (.iload_n 2, 1) := by decide +kernel
theorem dX9_frontGoes_12 : decode cX9_frontGoes 12 = .ok (.if_icmp .ge 107, 3) := by decide +kernel
theorem dX9_frontGoes_15 : decode cX9_frontGoes 15 = .ok (.aload_n 1, 1) := by decide +kernel
theorem dX9_frontGoes_16 : decode cX9_frontGoes 16 = .ok (.sipush 297, 3) := by decide +kernel
theorem dX9_frontGoes_19 : decode cX9_frontGoes 19 = .ok (.iaload, 1) := by decide +kernel
theorem dX9_frontGoes_20 : decode cX9_frontGoes 20 = .ok (.ifCond .ne 99, 3) := by decide +kernel
theorem dX9_frontGoes_23 : decode cX9_frontGoes 23 = .ok (.aload_n 0, 1) := by decide +kernel
theorem dX9_frontGoes_24 : decode cX9_frontGoes 24 = .ok (.aload_n 1, 1) := by decide +kernel
theorem dX9_frontGoes_25 : decode cX9_frontGoes 25 = .ok (.invokevirtual 449, 3) := by decide +kernel
theorem dX9_frontGoes_28 : decode cX9_frontGoes 28 = .ok (.istore 5, 2) := by decide +kernel
theorem dX9_frontGoes_30 : decode cX9_frontGoes 30 = .ok (.iload 5, 2) := by decide +kernel
theorem dX9_frontGoes_32 : decode cX9_frontGoes 32 = .ok (.iconst (-1), 1) := by decide +kernel
theorem dX9_frontGoes_33 : decode cX9_frontGoes 33 = .ok (.if_icmp .ne 6, 3) := by decide +kernel
theorem dX9_frontGoes_36 : decode cX9_frontGoes 36 = .ok (.goto 77, 3) := by decide +kernel
theorem dX9_frontGoes_39 : decode cX9_frontGoes 39 = .ok (.aload_n 0, 1) := by decide +kernel
theorem dX9_frontGoes_40 : decode cX9_frontGoes 40 = .ok (.getfield 389, 3) := by decide +kernel
theorem dX9_frontGoes_43 : decode cX9_frontGoes 43 = .ok (.aload_n 1, 1) := by decide +kernel
theorem dX9_frontGoes_44 : decode cX9_frontGoes 44 = .ok (.iconst 0, 1) := by decide +kernel
theorem dX9_frontGoes_45 : decode cX9_frontGoes 45 = .ok (.aload_n 1, 1) := by decide +kernel
theorem dX9_frontGoes_46 : decode cX9_frontGoes 46 = .ok (.sipush 288, 3) := by decide +kernel
theorem dX9_frontGoes_49 : decode cX9_frontGoes 49 = .ok (.iaload, 1) := by decide +kernel
theorem dX9_frontGoes_50 : decode cX9_frontGoes 50 = .ok (.iadd, 1) := by decide +kernel
theorem dX9_frontGoes_51 : decode cX9_frontGoes 51 = .ok (.iconst 1, 1) := by decide +kernel
theorem dX9_frontGoes_52 : decode cX9_frontGoes 52 = .ok (.isub, 1) := by decide +kernel
theorem dX9_frontGoes_53 : decode cX9_frontGoes 53 = .ok (.iaload, 1) := by decide +kernel
theorem dX9_frontGoes_54 : decode cX9_frontGoes 54 = .ok (.iload 5, 2) := by decide +kernel
theorem dX9_frontGoes_56 : decode cX9_frontGoes 56 = .ok (.invokevirtual 364, 3) := by decide +kernel
theorem dX9_frontGoes_59 : decode cX9_frontGoes 59 = .ok (.istore 6, 2) := by decide +kernel
theorem dX9_frontGoes_61 : decode cX9_frontGoes 61 = .ok (.aload_n 0, 1) := by decide +kernel
theorem dX9_frontGoes_62 : decode cX9_frontGoes 62 = .ok (.getfield 389, 3) := by decide +kernel
theorem dX9_frontGoes_65 : decode cX9_frontGoes 65 = .ok (.getfield 263, 3) := by decide +kernel
theorem dX9_frontGoes_68 : decode cX9_frontGoes 68 = .ok (.ifCond .eq 18, 3) := by decide +kernel
theorem dX9_frontGoes_71 : decode cX9_frontGoes 71 = .ok (.aload_n 1, 1) := by decide +kernel
theorem dX9_frontGoes_72 : decode cX9_frontGoes 72 = .ok (.iload 6, 2) := by decide +kernel
theorem dX9_frontGoes_74 : decode cX9_frontGoes 74 = .ok (.invokestatic 412, 3) := by decide +kernel
theorem dX9_frontGoes_77 : decode cX9_frontGoes 77 = .ok (.ifCond .eq 9, 3) := by decide +kernel
theorem dX9_frontGoes_80 : decode cX9_frontGoes 80 = .ok (.aload_n 1, 1) := by decide +kernel
theorem dX9_frontGoes_81 : decode cX9_frontGoes 81 = .ok (.sipush 297, 3) := by decide +kernel
theorem dX9_frontGoes_84 : decode cX9_frontGoes 84 = .ok (.iconst 1, 1) := by decide +kernel
theorem dX9_frontGoes_85 : decode cX9_frontGoes 85 = .ok (.iastore, 1) := by decide +kernel
theorem dX9_frontGoes_86 : decode cX9_frontGoes 86 = .ok (.aload_n 1, 1) := by decide +kernel
theorem dX9_frontGoes_87 : decode cX9_frontGoes 87 = .ok (.iconst 0, 1) := by decide +kernel
theorem dX9_frontGoes_88 : decode cX9_frontGoes 88 = .ok (.aload_n 1, 1) := by decide +kernel
theorem dX9_frontGoes_89 : decode cX9_frontGoes 89 = .ok (.sipush 288, 3) := by decide +kernel
theorem dX9_frontGoes_92 : decode cX9_frontGoes 92 = .ok (.iaload, 1) := by decide +kernel
theorem dX9_frontGoes_93 : decode cX9_frontGoes 93 = .ok (.iadd, 1) := by decide +kernel
theorem dX9_frontGoes_94 : decode cX9_frontGoes 94 = .ok (.iload 6, 2) := by decide +kernel
theorem dX9_frontGoes_96 : decode cX9_frontGoes 96 = .ok (.iastore, 1) := by decide +kernel
theorem dX9_frontGoes_97 : decode cX9_frontGoes 97 = .ok (.aload_n 1, 1) := by decide +kernel
theorem dX9_frontGoes_98 : decode cX9_frontGoes 98 = .ok (.sipush 288, 3) := by decide +kernel
theorem dX9_frontGoes_101 : decode cX9_frontGoes 101 = .ok (.dup2, 1) := by decide +kernel
theorem dX9_frontGoes_102 : decode cX9_frontGoes 102 = .ok (.iaload, 1) := by decide +kernel
theorem dX9_frontGoes_103 : decode cX9_frontGoes 103 = .ok (.iconst 1, 1) := by decide +kernel
theorem dX9_frontGoes_104 : decode cX9_frontGoes 104 = .ok (.iadd, 1) := by decide +kernel
theorem dX9_frontGoes_105 : decode cX9_frontGoes 105 = .ok (.iastore, 1) := by decide +kernel
theorem dX9_frontGoes_106 : decode cX9_frontGoes 106 = .ok (.aload_n 1, 1) := by decide +kernel
theorem dX9_frontGoes_107 : decode cX9_frontGoes 107 = .ok (.sipush 292, 3) := by decide +kernel
theorem dX9_frontGoes_110 : decode cX9_frontGoes 110 = .ok (.iload 5, 2) := by decide +kernel
theorem dX9_frontGoes_112 : decode cX9_frontGoes 112 = .ok (.iastore, 1) := by decide +kernel
theorem dX9_frontGoes_113 : decode cX9_frontGoes 113 = .ok (.iinc 4 1, 3) := by decide +kernel
theorem dX9_frontGoes_116 : decode cX9_frontGoes 116 = .ok (.goto (-107), 3) := by decide +kernel
theorem dX9_frontGoes_119 : decode cX9_frontGoes 119 = .ok (.aload_n 0, 1) := by decide +kernel
theorem dX9_frontGoes_120 : decode cX9_frontGoes 120 = .ok (.getfield 42, 3) := by decide +kernel
theorem dX9_frontGoes_123 : decode cX9_frontGoes 123 = .ok (.aload_n 1, 1) := by decide +kernel
theorem dX9_frontGoes_124 : decode cX9_frontGoes 124 = .ok (.sipush 204, 3) := by decide +kernel
theorem dX9_frontGoes_127 : decode cX9_frontGoes 127 = .ok (.iaload, 1) := by decide +kernel
theorem dX9_frontGoes_128 : decode cX9_frontGoes 128 = .ok (.dup2, 1) := by decide +kernel
theorem dX9_frontGoes_129 : decode cX9_frontGoes 129 = .ok (.iaload, 1) := by decide +kernel
theorem dX9_frontGoes_130 : decode cX9_frontGoes 130 = .ok (.aload_n 1, 1) := by decide +kernel
theorem dX9_frontGoes_131 : decode cX9_frontGoes 131 = .ok (.sipush 288, 3) := by decide +kernel
theorem dX9_frontGoes_134 : decode cX9_frontGoes 134 = .ok (.iaload, 1) := by decide +kernel
theorem dX9_frontGoes_135 : decode cX9_frontGoes 135 = .ok (.iload_n 3, 1) := by decide +kernel
theorem dX9_frontGoes_136 : decode cX9_frontGoes 136 = .ok (.isub, 1) := by decide +kernel
theorem dX9_frontGoes_137 : decode cX9_frontGoes 137 = .ok (.iadd, 1) := by decide +kernel
theorem dX9_frontGoes_138 : decode cX9_frontGoes 138 = .ok (.iastore, 1) := by decide +kernel
theorem dX9_frontGoes_139 : decode cX9_frontGoes 139 = .ok (.aload_n 1, 1) := by decide +kernel
theorem dX9_frontGoes_140 : decode cX9_frontGoes 140 = .ok (.sipush 220, 3) := by decide +kernel
theorem dX9_frontGoes_143 : decode cX9_frontGoes 143 = .ok (.aload_n 1, 1) := by decide +kernel
theorem dX9_frontGoes_144 : decode cX9_frontGoes 144 = .ok (.sipush 288, 3) := by decide +kernel
theorem dX9_frontGoes_147 : decode cX9_frontGoes 147 = .ok (.iaload, 1) := by decide +kernel
theorem dX9_frontGoes_148 : decode cX9_frontGoes 148 = .ok (.iconst 1, 1) := by decide +kernel
theorem dX9_frontGoes_149 : decode cX9_frontGoes 149 = .ok (.isub, 1) := by decide +kernel
theorem dX9_frontGoes_150 : decode cX9_frontGoes 150 = .ok (.iastore, 1) := by decide +kernel
theorem dX9_frontGoes_151 : decode cX9_frontGoes 151 = .ok (.return_, 1) := by decide +kernel
theorem dX9_follows_0 : decode cX9_follows 0 = .ok (.aload_n 1, 1) := by decide +kernel
theorem dX9_follows_1 : decode cX9_follows 1 = .ok (.sipush 252, 3) := by decide +kernel
theorem dX9_follows_4 : decode cX9_follows 4 = .ok (.iload_n 2, 1) := by decide +kernel
theorem dX9_follows_5 : decode cX9_follows 5 = .ok (.iadd, 1) := by decide +kernel
theorem dX9_follows_6 : decode cX9_follows 6 = .ok (.iaload, 1) := by decide +kernel
theorem dX9_follows_7 : decode cX9_follows 7 = .ok (.istore_n 3, 1) := by decide +kernel
theorem dX9_follows_8 : decode cX9_follows 8 = .ok (.aload_n 1, 1) := by decide +kernel
theorem dX9_follows_9 : decode cX9_follows 9 = .ok (.sipush 220, 3) := by decide +kernel
theorem dX9_follows_12 : decode cX9_follows 12 = .ok (.iload_n 2, 1) := by decide +kernel
theorem dX9_follows_13 : decode cX9_follows 13 = .ok (.iadd, 1) := by decide +kernel
theorem dX9_follows_14 : decode cX9_follows 14 = .ok (.iaload, 1) := by decide +kernel
theorem dX9_follows_15 : decode cX9_follows 15 = .ok (.aload_n 1, 1) := by decide +kernel
theorem dX9_follows_16 : decode cX9_follows 16 = .ok (.sipush 220, 3) := by decide +kernel
theorem dX9_follows_19 : decode cX9_follows 19 = .ok (.iload_n 2, 1) := by decide +kernel
theorem dX9_follows_20 : decode cX9_follows 20 = .ok (.iadd, 1) := by decide +kernel
theorem dX9_follows_21 : decode cX9_follows 21 = .ok (.iconst 1, 1) := by decide +kernel
theorem dX9_follows_22 : decode cX9_follows 22 = .ok (.isub, 1) := by decide +kernel
theorem dX9_follows_23 : decode cX9_follows 23 = .ok (.iaload, 1) := by decide +kernel
theorem dX9_follows_24 : decode cX9_follows 24 = .ok (.iconst 1, 1) := by decide +kernel
theorem dX9_follows_25 : decode cX9_follows 25 = .ok (.isub, 1) := by decide +kernel
theorem dX9_follows_26 : decode cX9_follows 26 = .ok (.if_icmp .ge 93, 3) := by decide +kernel
theorem dX9_follows_29 : decode cX9_follows 29 = .ok (.aload_n 0, 1) := by decide +kernel
theorem dX9_follows_30 : decode cX9_follows 30 = .ok (.aload_n 1, 1) := by decide +kernel
theorem dX9_follows_31 : decode cX9_follows 31 = .ok (.aload_n 1, 1) := by decide +kernel
theorem dX9_follows_32 : decode cX9_follows 32 = .ok (.sipush 220, 3) := by decide +kernel
theorem dX9_follows_35 : decode cX9_follows 35 = .ok (.iload_n 2, 1) := by decide +kernel
theorem dX9_follows_36 : decode cX9_follows 36 = .ok (.iadd, 1) := by decide +kernel
theorem dX9_follows_37 : decode cX9_follows 37 = .ok (.iaload, 1) := by decide +kernel
theorem dX9_follows_38 : decode cX9_follows 38 = .ok (.invokevirtual 451, 3) := by decide +kernel
theorem dX9_follows_41 : decode cX9_follows 41 = .ok (.ifCond .eq 14, 3) := by decide +kernel
theorem dX9_follows_44 : decode cX9_follows 44 = .ok (.aload_n 1, 1) := by decide +kernel
theorem dX9_follows_45 : decode cX9_follows 45 = .ok (.sipush 236, 3) := by decide +kernel
theorem dX9_follows_48 : decode cX9_follows 48 = .ok (.iload_n 2, 1) := by decide +kernel
theorem dX9_follows_49 : decode cX9_follows 49 = .ok (.iadd, 1) := by decide +kernel
theorem dX9_follows_50 : decode cX9_follows 50 = .ok (.iaload, 1) := by decide +kernel
theorem dX9_follows_51 : decode cX9_follows 51 = .ok (.iconst 2, 1) := by decide +kernel
theorem dX9_follows_52 : decode cX9_follows 52 = .ok (.if_icmp .ne 7, 3) := by decide +kernel
theorem dX9_follows_55 : decode cX9_follows 55 = .ok (.iconst 1, 1) := by decide +kernel
theorem dX9_follows_56 : decode cX9_follows 56 = .ok (.goto 19, 3) := by decide +kernel
theorem dX9_follows_59 : decode cX9_follows 59 = .ok (.aload_n 1, 1) := by decide +kernel
theorem dX9_follows_60 : decode cX9_follows 60 = .ok (.sipush 236, 3) := by decide +kernel
theorem dX9_follows_63 : decode cX9_follows 63 = .ok (.iload_n 2, 1) := by decide +kernel
theorem dX9_follows_64 : decode cX9_follows 64 = .ok (.iadd, 1) := by decide +kernel
theorem dX9_follows_65 : decode cX9_follows 65 = .ok (.iaload, 1) := by decide +kernel
theorem dX9_follows_66 : decode cX9_follows 66 = .ok (.iconst 3, 1) := by decide +kernel
theorem dX9_follows_67 : decode cX9_follows 67 = .ok (.if_icmp .ne 7, 3) := by decide +kernel
theorem dX9_follows_70 : decode cX9_follows 70 = .ok (.iconst 3, 1) := by decide +kernel
theorem dX9_follows_71 : decode cX9_follows 71 = .ok (.goto 4, 3) := by decide +kernel
theorem dX9_follows_74 : decode cX9_follows 74 = .ok (.iconst 2, 1) := by decide +kernel
theorem dX9_follows_75 : decode cX9_follows 75 = .ok (.istore 4, 2) := by decide +kernel
theorem dX9_follows_77 : decode cX9_follows 77 = .ok (.iload 4, 2) := by decide +kernel
theorem dX9_follows_79 : decode cX9_follows 79 = .ok (.iload_n 3, 1) := by decide +kernel
theorem dX9_follows_80 : decode cX9_follows 80 = .ok (.if_icmp .le 4, 3) := by decide +kernel
theorem dX9_follows_83 : decode cX9_follows 83 = .ok (.return_, 1) := by decide +kernel
theorem dX9_follows_84 : decode cX9_follows 84 = .ok (.iload_n 3, 1) := by decide +kernel
theorem dX9_follows_85 : decode cX9_follows 85 = .ok (.iload 4, 2) := by decide +kernel
theorem dX9_follows_87 : decode cX9_follows 87 = .ok (.isub, 1) := by decide +kernel
theorem dX9_follows_88 : decode cX9_follows 88 = .ok (.istore_n 3, 1) := by decide +kernel
theorem dX9_follows_89 : decode cX9_follows 89 = .ok (.aload_n 1, 1) := by decide +kernel
theorem dX9_follows_90 : decode cX9_follows 90 = .ok (.sipush 220, 3) := by decide +kernel
theorem dX9_follows_93 : decode cX9_follows 93 = .ok (.iload_n 2, 1) := by decide +kernel
theorem dX9_follows_94 : decode cX9_follows 94 = .ok (.iadd, 1) := by decide +kernel
theorem dX9_follows_95 : decode cX9_follows 95 = .ok (.dup2, 1) := by decide +kernel
theorem dX9_follows_96 : decode cX9_follows 96 = .ok (.iaload, 1) := by decide +kernel
theorem dX9_follows_97 : decode cX9_follows 97 = .ok (.iconst 1, 1) := by decide +kernel
theorem dX9_follows_98 : decode cX9_follows 98 = .ok (.iadd, 1) := by decide +kernel
theorem dX9_follows_99 : decode cX9_follows 99 = .ok (.iastore, 1) := by decide +kernel
theorem dX9_follows_100 : decode cX9_follows 100 = .ok (.aload_n 0, 1) := by decide +kernel
theorem dX9_follows_101 : decode cX9_follows 101 = .ok (.getfield 42, 3) := by decide +kernel
theorem dX9_follows_104 : decode cX9_follows 104 = .ok (.aload_n 1, 1) := by decide +kernel
theorem dX9_follows_105 : decode cX9_follows 105 = .ok (.sipush 204, 3) := by decide +kernel
theorem dX9_follows_108 : decode cX9_follows 108 = .ok (.iload_n 2, 1) := by decide +kernel
theorem dX9_follows_109 : decode cX9_follows 109 = .ok (.iadd, 1) := by decide +kernel
theorem dX9_follows_110 : decode cX9_follows 110 = .ok (.iaload, 1) := by decide +kernel
theorem dX9_follows_111 : decode cX9_follows 111 = .ok (.dup2, 1) := by decide +kernel
theorem dX9_follows_112 : decode cX9_follows 112 = .ok (.iaload, 1) := by decide +kernel
theorem dX9_follows_113 : decode cX9_follows 113 = .ok (.iconst 1, 1) := by decide +kernel
theorem dX9_follows_114 : decode cX9_follows 114 = .ok (.iadd, 1) := by decide +kernel
theorem dX9_follows_115 : decode cX9_follows 115 = .ok (.iastore, 1) := by decide +kernel
theorem dX9_follows_116 : decode cX9_follows 116 = .ok (.goto (-108), 3) := by decide +kernel
theorem dX9_follows_119 : decode cX9_follows 119 = .ok (.return_, 1) := by decide +kernel
theorem dX9_moves_0 : decode cX9_moves 0 = .ok (.aload_n 0, 1) := by decide +kernel
theorem dX9_moves_1 : decode cX9_moves 1 = .ok (.sipush 204, 3) := by decide +kernel
theorem dX9_moves_4 : decode cX9_moves 4 = .ok (.iload_n 2, 1) := by decide +kernel
theorem dX9_moves_5 : decode cX9_moves 5 = .ok (.iadd, 1) := by decide +kernel
theorem dX9_moves_6 : decode cX9_moves 6 = .ok (.aload_n 0, 1) := by decide +kernel
theorem dX9_moves_7 : decode cX9_moves 7 = .ok (.sipush 204, 3) := by decide +kernel
theorem dX9_moves_10 : decode cX9_moves 10 = .ok (.iload_n 1, 1) := by decide +kernel
theorem dX9_moves_11 : decode cX9_moves 11 = .ok (.iadd, 1) := by decide +kernel
theorem dX9_moves_12 : decode cX9_moves 12 = .ok (.iaload, 1) := by decide +kernel
theorem dX9_moves_13 : decode cX9_moves 13 = .ok (.iastore, 1) := by decide +kernel
theorem dX9_moves_14 : decode cX9_moves 14 = .ok (.aload_n 0, 1) := by decide +kernel
theorem dX9_moves_15 : decode cX9_moves 15 = .ok (.sipush 220, 3) := by decide +kernel
theorem dX9_moves_18 : decode cX9_moves 18 = .ok (.iload_n 2, 1) := by decide +kernel
theorem dX9_moves_19 : decode cX9_moves 19 = .ok (.iadd, 1) := by decide +kernel
theorem dX9_moves_20 : decode cX9_moves 20 = .ok (.aload_n 0, 1) := by decide +kernel
theorem dX9_moves_21 : decode cX9_moves 21 = .ok (.sipush 220, 3) := by decide +kernel
theorem dX9_moves_24 : decode cX9_moves 24 = .ok (.iload_n 1, 1) := by decide +kernel
theorem dX9_moves_25 : decode cX9_moves 25 = .ok (.iadd, 1) := by decide +kernel
theorem dX9_moves_26 : decode cX9_moves 26 = .ok (.iaload, 1) := by decide +kernel
theorem dX9_moves_27 : decode cX9_moves 27 = .ok (.iastore, 1) := by decide +kernel
theorem dX9_moves_28 : decode cX9_moves 28 = .ok (.aload_n 0, 1) := by decide +kernel
theorem dX9_moves_29 : decode cX9_moves 29 = .ok (.sipush 236, 3) := by decide +kernel
theorem dX9_moves_32 : decode cX9_moves 32 = .ok (.iload_n 2, 1) := by decide +kernel
theorem dX9_moves_33 : decode cX9_moves 33 = .ok (.iadd, 1) := by decide +kernel
theorem dX9_moves_34 : decode cX9_moves 34 = .ok (.aload_n 0, 1) := by decide +kernel
theorem dX9_moves_35 : decode cX9_moves 35 = .ok (.sipush 236, 3) := by decide +kernel
theorem dX9_moves_38 : decode cX9_moves 38 = .ok (.iload_n 1, 1) := by decide +kernel
theorem dX9_moves_39 : decode cX9_moves 39 = .ok (.iadd, 1) := by decide +kernel
theorem dX9_moves_40 : decode cX9_moves 40 = .ok (.iaload, 1) := by decide +kernel
theorem dX9_moves_41 : decode cX9_moves 41 = .ok (.iastore, 1) := by decide +kernel
theorem dX9_moves_42 : decode cX9_moves 42 = .ok (.aload_n 0, 1) := by decide +kernel
theorem dX9_moves_43 : decode cX9_moves 43 = .ok (.sipush 252, 3) := by decide +kernel
theorem dX9_moves_46 : decode cX9_moves 46 = .ok (.iload_n 2, 1) := by decide +kernel
theorem dX9_moves_47 : decode cX9_moves 47 = .ok (.iadd, 1) := by decide +kernel
theorem dX9_moves_48 : decode cX9_moves 48 = .ok (.aload_n 0, 1) := by decide +kernel
theorem dX9_moves_49 : decode cX9_moves 49 = .ok (.sipush 252, 3) := by decide +kernel
theorem dX9_moves_52 : decode cX9_moves 52 = .ok (.iload_n 1, 1) := by decide +kernel
theorem dX9_moves_53 : decode cX9_moves 53 = .ok (.iadd, 1) := by decide +kernel
theorem dX9_moves_54 : decode cX9_moves 54 = .ok (.iaload, 1) := by decide +kernel
theorem dX9_moves_55 : decode cX9_moves 55 = .ok (.iastore, 1) := by decide +kernel
theorem dX9_moves_56 : decode cX9_moves 56 = .ok (.aload_n 0, 1) := by decide +kernel
theorem dX9_moves_57 : decode cX9_moves 57 = .ok (.sipush 268, 3) := by decide +kernel
theorem dX9_moves_60 : decode cX9_moves 60 = .ok (.iload_n 2, 1) := by decide +kernel
theorem dX9_moves_61 : decode cX9_moves 61 = .ok (.iadd, 1) := by decide +kernel
theorem dX9_moves_62 : decode cX9_moves 62 = .ok (.aload_n 0, 1) := by decide +kernel
theorem dX9_moves_63 : decode cX9_moves 63 = .ok (.sipush 268, 3) := by decide +kernel
theorem dX9_moves_66 : decode cX9_moves 66 = .ok (.iload_n 1, 1) := by decide +kernel
theorem dX9_moves_67 : decode cX9_moves 67 = .ok (.iadd, 1) := by decide +kernel
theorem dX9_moves_68 : decode cX9_moves 68 = .ok (.iaload, 1) := by decide +kernel
theorem dX9_moves_69 : decode cX9_moves 69 = .ok (.iastore, 1) := by decide +kernel
theorem dX9_moves_70 : decode cX9_moves 70 = .ok (.return_, 1) := by decide +kernel
theorem dX9_outs_0 : decode cX9_outs 0 = .ok (.iload_n 1, 1) := by decide +kernel
theorem dX9_outs_1 : decode cX9_outs 1 = .ok (.istore_n 2, 1) := by decide +kernel
theorem dX9_outs_2 : decode cX9_outs 2 = .ok (.iload_n 2, 1) := by decide +kernel
theorem dX9_outs_3 : decode cX9_outs 3 = .ok (.iconst 1, 1) := by decide +kernel
theorem dX9_outs_4 : decode cX9_outs 4 = .ok (.iadd, 1) := by decide +kernel
theorem dX9_outs_5 : decode cX9_outs 5 = .ok (.aload_n 0, 1) := by decide +kernel
theorem dX9_outs_6 : decode cX9_outs 6 = .ok (.sipush 289, 3) := by decide +kernel
theorem dX9_outs_9 : decode cX9_outs 9 = .ok (.iaload, 1) := by decide +kernel
theorem dX9_outs_10 : decode cX9_outs 10 = .ok (.if_icmp .ge 17, 3) := by decide +kernel
theorem dX9_outs_13 : decode cX9_outs 13 = .ok (.aload_n 0, 1) := by decide +kernel
theorem dX9_outs_14 : decode cX9_outs 14 = .ok (.iload_n 2, 1) := by decide +kernel
theorem dX9_outs_15 : decode cX9_outs 15 = .ok (.iconst 1, 1) := by decide +kernel
theorem dX9_outs_16 : decode cX9_outs 16 = .ok (.iadd, 1) := by decide +kernel
theorem dX9_outs_17 : decode cX9_outs 17 = .ok (.iload_n 2, 1) := by decide +kernel
theorem dX9_outs_18 : decode cX9_outs 18 = .ok (.invokestatic 454, 3) := by decide +kernel
theorem dX9_outs_21 : decode cX9_outs 21 = .ok (.iinc 2 1, 3) := by decide +kernel
theorem dX9_outs_24 : decode cX9_outs 24 = .ok (.goto (-22), 3) := by decide +kernel
theorem dX9_outs_27 : decode cX9_outs 27 = .ok (.aload_n 0, 1) := by decide +kernel
theorem dX9_outs_28 : decode cX9_outs 28 = .ok (.sipush 289, 3) := by decide +kernel
theorem dX9_outs_31 : decode cX9_outs 31 = .ok (.dup2, 1) := by decide +kernel
theorem dX9_outs_32 : decode cX9_outs 32 = .ok (.iaload, 1) := by decide +kernel
theorem dX9_outs_33 : decode cX9_outs 33 = .ok (.iconst 1, 1) := by decide +kernel
theorem dX9_outs_34 : decode cX9_outs 34 = .ok (.isub, 1) := by decide +kernel
theorem dX9_outs_35 : decode cX9_outs 35 = .ok (.iastore, 1) := by decide +kernel
theorem dX9_outs_36 : decode cX9_outs 36 = .ok (.return_, 1) := by decide +kernel
theorem dX9_tears_0 : decode cX9_tears 0 = .ok (.iconst 1, 1) := by decide +kernel
theorem dX9_tears_1 : decode cX9_tears 1 = .ok (.istore_n 2, 1) := by decide +kernel
theorem dX9_tears_2 : decode cX9_tears 2 = .ok (.iload_n 2, 1) := by decide +kernel
theorem dX9_tears_3 : decode cX9_tears 3 = .ok (.aload_n 1, 1) := by decide +kernel
theorem dX9_tears_4 : decode cX9_tears 4 = .ok (.sipush 289, 3) := by decide +kernel
theorem dX9_tears_7 : decode cX9_tears 7 = .ok (.iaload, 1) := by decide +kernel
theorem dX9_tears_8 : decode cX9_tears 8 = .ok (.if_icmp .ge 57, 3) := by decide +kernel
theorem dX9_tears_11 : decode cX9_tears 11 = .ok (.aload_n 1, 1) := by decide +kernel
theorem dX9_tears_12 : decode cX9_tears 12 = .ok (.iload_n 2, 1) := by decide +kernel
theorem dX9_tears_13 : decode cX9_tears 13 = .ok (.invokestatic 458, 3) := by decide +kernel
theorem dX9_tears_16 : decode cX9_tears 16 = .ok (.aload_n 1, 1) := by decide +kernel
theorem dX9_tears_17 : decode cX9_tears 17 = .ok (.sipush 268, 3) := by decide +kernel
theorem dX9_tears_20 : decode cX9_tears 20 = .ok (.iload_n 2, 1) := by decide +kernel
theorem dX9_tears_21 : decode cX9_tears 21 = .ok (.iadd, 1) := by decide +kernel
theorem dX9_tears_22 : decode cX9_tears 22 = .ok (.iaload, 1) := by decide +kernel
theorem dX9_tears_23 : decode cX9_tears 23 = .ok (.if_icmp .gt 6, 3) := by decide +kernel
theorem dX9_tears_26 : decode cX9_tears 26 = .ok (.goto 33, 3) := by decide +kernel
theorem dX9_tears_29 : decode cX9_tears 29 = .ok (.aload_n 0, 1) := by decide +kernel
theorem dX9_tears_30 : decode cX9_tears 30 = .ok (.dup, 1) := by decide +kernel
theorem dX9_tears_31 : decode cX9_tears 31 = .ok (.getfield 461, 3) := by decide +kernel
theorem dX9_tears_34 : decode cX9_tears 34 = .ok (.aload_n 1, 1) := by decide +kernel
theorem dX9_tears_35 : decode cX9_tears 35 = .ok (.sipush 289, 3) := by decide +kernel
theorem dX9_tears_38 : decode cX9_tears 38 = .ok (.iaload, 1) := by decide +kernel
theorem dX9_tears_39 : decode cX9_tears 39 = .ok (.iload_n 2, 1) := by decide +kernel
theorem dX9_tears_40 : decode cX9_tears 40 = .ok (.isub, 1) := by decide +kernel
theorem dX9_tears_41 : decode cX9_tears 41 = .ok (.iadd, 1) := by decide +kernel
theorem dX9_tears_42 : decode cX9_tears 42 = .ok (.putfield 461, 3) := by decide +kernel
theorem dX9_tears_45 : decode cX9_tears 45 = .ok (.aload_n 1, 1) := by decide +kernel
theorem dX9_tears_46 : decode cX9_tears 46 = .ok (.sipush 289, 3) := by decide +kernel
theorem dX9_tears_49 : decode cX9_tears 49 = .ok (.iload_n 2, 1) := by decide +kernel
theorem dX9_tears_50 : decode cX9_tears 50 = .ok (.iastore, 1) := by decide +kernel
theorem dX9_tears_51 : decode cX9_tears 51 = .ok (.aload_n 1, 1) := by decide +kernel
theorem dX9_tears_52 : decode cX9_tears 52 = .ok (.sipush 204, 3) := by decide +kernel
theorem dX9_tears_55 : decode cX9_tears 55 = .ok (.iload_n 2, 1) := by decide +kernel
theorem dX9_tears_56 : decode cX9_tears 56 = .ok (.iadd, 1) := by decide +kernel
theorem dX9_tears_57 : decode cX9_tears 57 = .ok (.iaload, 1) := by decide +kernel
theorem dX9_tears_58 : decode cX9_tears 58 = .ok (.ireturn, 1) := by decide +kernel
theorem dX9_tears_59 : decode cX9_tears 59 = .ok (.iinc 2 1, 3) := by decide +kernel
theorem dX9_tears_62 : decode cX9_tears 62 = .ok (.goto (-60), 3) := by decide +kernel
theorem dX9_tears_65 : decode cX9_tears 65 = .ok (.iconst (-1), 1) := by decide +kernel
theorem dX9_tears_66 : decode cX9_tears 66 = .ok (.ireturn, 1) := by decide +kernel
theorem dX9_auntsLeave_0 : decode cX9_auntsLeave 0 = .ok (.aload_n 1, 1) := by decide +kernel
theorem dX9_auntsLeave_1 : decode cX9_auntsLeave 1 = .ok (.sipush 289, 3) := by decide +kernel
theorem dX9_auntsLeave_4 : decode cX9_auntsLeave 4 = .ok (.iaload, 1) := by decide +kernel
theorem dX9_auntsLeave_5 : decode cX9_auntsLeave 5 = .ok (.iconst 1, 1) := by decide +kernel
theorem dX9_auntsLeave_6 : decode cX9_auntsLeave 6 = .ok (.isub, 1) := by decide +kernel
theorem dX9_auntsLeave_7 : decode cX9_auntsLeave 7 = .ok (.istore_n 2, 1) := by decide +kernel
theorem dX9_auntsLeave_8 : decode cX9_auntsLeave 8 = .ok (.iload_n 2, 1) := by decide +kernel
theorem dX9_auntsLeave_9 : decode cX9_auntsLeave 9 = .ok (.ifCond .le 42, 3) := by decide +kernel
theorem dX9_auntsLeave_12 : decode cX9_auntsLeave 12 = .ok (.aload_n 1, 1) := by decide +kernel
theorem dX9_auntsLeave_13 : decode cX9_auntsLeave 13 = .ok (.sipush 236, 3) := by decide +kernel
theorem dX9_auntsLeave_16 : decode cX9_auntsLeave 16 = .ok (.iload_n 2, 1) := by decide +kernel
theorem dX9_auntsLeave_17 : decode cX9_auntsLeave 17 = .ok (.iadd, 1) := by decide +kernel
theorem dX9_auntsLeave_18 : decode cX9_auntsLeave 18 = .ok (.iaload, 1) := by decide +kernel
theorem dX9_auntsLeave_19 : decode cX9_auntsLeave 19 = .ok (.iconst 1, 1) := by decide +kernel
theorem dX9_auntsLeave_20 : decode cX9_auntsLeave 20 = .ok (.if_icmp .ne 25, 3) := by decide +kernel
theorem dX9_auntsLeave_23 : decode cX9_auntsLeave 23 = .ok (.aload_n 0, 1) := by decide +kernel
theorem dX9_auntsLeave_24 : decode cX9_auntsLeave 24 = .ok (.getfield 389, 3) := by decide +kernel
theorem dX9_auntsLeave_27 : decode cX9_auntsLeave 27 = .ok (.getfield 275, 3) := by decide +kernel
theorem dX9_auntsLeave_30 : decode cX9_auntsLeave 30 = .ok (.aload_n 1, 1) := by decide +kernel
theorem dX9_auntsLeave_31 : decode cX9_auntsLeave 31 = .ok (.iload_n 2, 1) := by decide +kernel
theorem dX9_auntsLeave_32 : decode cX9_auntsLeave 32 = .ok (.invokestatic 409, 3) := by decide +kernel
theorem dX9_auntsLeave_35 : decode cX9_auntsLeave 35 = .ok (.iaload, 1) := by decide +kernel
theorem dX9_auntsLeave_36 : decode cX9_auntsLeave 36 = .ok (.iconst 1, 1) := by decide +kernel
theorem dX9_auntsLeave_37 : decode cX9_auntsLeave 37 = .ok (.if_icmp .ne 8, 3) := by decide +kernel
theorem dX9_auntsLeave_40 : decode cX9_auntsLeave 40 = .ok (.aload_n 1, 1) := by decide +kernel
theorem dX9_auntsLeave_41 : decode cX9_auntsLeave 41 = .ok (.iload_n 2, 1) := by decide +kernel
theorem dX9_auntsLeave_42 : decode cX9_auntsLeave 42 = .ok (.invokestatic 464, 3) := by decide +kernel
theorem dX9_auntsLeave_45 : decode cX9_auntsLeave 45 = .ok (.iinc 2 (-1), 3) := by decide +kernel
theorem dX9_auntsLeave_48 : decode cX9_auntsLeave 48 = .ok (.goto (-40), 3) := by decide +kernel
theorem dX9_auntsLeave_51 : decode cX9_auntsLeave 51 = .ok (.return_, 1) := by decide +kernel
theorem dX9_asks_0 : decode cX9_asks 0 = .ok (.aload_n 1, 1) := by decide +kernel
theorem dX9_asks_1 : decode cX9_asks 1 = .ok (.sipush 284, 3) := by decide +kernel
theorem dX9_asks_4 : decode cX9_asks 4 = .ok (.iload_n 2, 1) := by decide +kernel
theorem dX9_asks_5 : decode cX9_asks 5 = .ok (.iadd, 1) := by decide +kernel
theorem dX9_asks_6 : decode cX9_asks 6 = .ok (.iaload, 1) := by decide +kernel
theorem dX9_asks_7 : decode cX9_asks 7 = .ok (.ifCond .eq 13, 3) := by decide +kernel
theorem dX9_asks_10 : decode cX9_asks 10 = .ok (.aload_n 1, 1) := by decide +kernel
theorem dX9_asks_11 : decode cX9_asks 11 = .ok (.sipush 289, 3) := by decide +kernel
theorem dX9_asks_14 : decode cX9_asks 14 = .ok (.iaload, 1) := by decide +kernel
theorem dX9_asks_15 : decode cX9_asks 15 = .ok (.bipush 16, 2) := by decide +kernel
theorem dX9_asks_17 : decode cX9_asks 17 = .ok (.if_icmp .lt 4, 3) := by decide +kernel
theorem dX9_asks_20 : decode cX9_asks 20 = .ok (.return_, 1) := by decide +kernel
theorem dX9_asks_21 : decode cX9_asks 21 = .ok (.iconst 0, 1) := by decide +kernel
theorem dX9_asks_22 : decode cX9_asks 22 = .ok (.istore_n 3, 1) := by decide +kernel
theorem dX9_asks_23 : decode cX9_asks 23 = .ok (.iload_n 3, 1) := by decide +kernel
theorem dX9_asks_24 : decode cX9_asks 24 = .ok (.aload_n 1, 1) := by decide +kernel
theorem dX9_asks_25 : decode cX9_asks 25 = .ok (.sipush 289, 3) := by decide +kernel
theorem dX9_asks_28 : decode cX9_asks 28 = .ok (.iaload, 1) := by decide +kernel
theorem dX9_asks_29 : decode cX9_asks 29 = .ok (.if_icmp .ge 33, 3) := by decide +kernel
theorem dX9_asks_32 : decode cX9_asks 32 = .ok (.aload_n 0, 1) := by decide +kernel
theorem dX9_asks_33 : decode cX9_asks 33 = .ok (.getfield 389, 3) := by decide +kernel
theorem dX9_asks_36 : decode cX9_asks 36 = .ok (.aload_n 1, 1) := by decide +kernel
theorem dX9_asks_37 : decode cX9_asks 37 = .ok (.iload_n 3, 1) := by decide +kernel
theorem dX9_asks_38 : decode cX9_asks 38 = .ok (.invokestatic 409, 3) := by decide +kernel
theorem dX9_asks_41 : decode cX9_asks 41 = .ok (.aload_n 0, 1) := by decide +kernel
theorem dX9_asks_42 : decode cX9_asks 42 = .ok (.getfield 389, 3) := by decide +kernel
theorem dX9_asks_45 : decode cX9_asks 45 = .ok (.getfield 335, 3) := by decide +kernel
theorem dX9_asks_48 : decode cX9_asks 48 = .ok (.iload_n 2, 1) := by decide +kernel
theorem dX9_asks_49 : decode cX9_asks 49 = .ok (.iaload, 1) := by decide +kernel
theorem dX9_asks_50 : decode cX9_asks 50 = .ok (.invokevirtual 468, 3) := by decide +kernel
theorem dX9_asks_53 : decode cX9_asks 53 = .ok (.ifCond .ne 9, 3) := by decide +kernel
theorem dX9_asks_56 : decode cX9_asks 56 = .ok (.iinc 3 1, 3) := by decide +kernel
theorem dX9_asks_59 : decode cX9_asks 59 = .ok (.goto (-36), 3) := by decide +kernel
theorem dX9_asks_62 : decode cX9_asks 62 = .ok (.iload_n 3, 1) := by decide +kernel
theorem dX9_asks_63 : decode cX9_asks 63 = .ok (.aload_n 1, 1) := by decide +kernel
theorem dX9_asks_64 : decode cX9_asks 64 = .ok (.sipush 289, 3) := by decide +kernel
theorem dX9_asks_67 : decode cX9_asks 67 = .ok (.iaload, 1) := by decide +kernel
theorem dX9_asks_68 : decode cX9_asks 68 = .ok (.if_icmp .eq 22, 3) := by decide +kernel
theorem dX9_asks_71 : decode cX9_asks 71 = .ok (.aload_n 1, 1) := by decide +kernel
theorem dX9_asks_72 : decode cX9_asks 72 = .ok (.invokestatic 439, 3) := by decide +kernel
theorem dX9_asks_75 : decode cX9_asks 75 = .ok (.bipush 100, 2) := by decide +kernel
theorem dX9_asks_77 : decode cX9_asks 77 = .ok (.irem, 1) := by decide +kernel
theorem dX9_asks_78 : decode cX9_asks 78 = .ok (.aload_n 0, 1) := by decide +kernel
theorem dX9_asks_79 : decode cX9_asks 79 = .ok (.getfield 389, 3) := by decide +kernel
theorem dX9_asks_82 : decode cX9_asks 82 = .ok (.getfield 349, 3) := by decide +kernel
theorem dX9_asks_85 : decode cX9_asks 85 = .ok (.iload_n 2, 1) := by decide +kernel
theorem dX9_asks_86 : decode cX9_asks 86 = .ok (.iaload, 1) := by decide +kernel
theorem dX9_asks_87 : decode cX9_asks 87 = .ok (.if_icmp .lt 4, 3) := by decide +kernel
theorem dX9_asks_90 : decode cX9_asks 90 = .ok (.return_, 1) := by decide +kernel
theorem dX9_asks_91 : decode cX9_asks 91 = .ok (.aload_n 1, 1) := by decide +kernel
theorem dX9_asks_92 : decode cX9_asks 92 = .ok (.sipush 289, 3) := by decide +kernel
theorem dX9_asks_95 : decode cX9_asks 95 = .ok (.iaload, 1) := by decide +kernel
theorem dX9_asks_96 : decode cX9_asks 96 = .ok (.iconst 1, 1) := by decide +kernel
theorem dX9_asks_97 : decode cX9_asks 97 = .ok (.isub, 1) := by decide +kernel
theorem dX9_asks_98 : decode cX9_asks 98 = .ok (.istore 4, 2) := by decide +kernel
theorem dX9_asks_100 : decode cX9_asks 100 = .ok (.aload_n 0, 1) := by decide +kernel
theorem dX9_asks_101 : decode cX9_asks 101 = .ok (.getfield 389, 3) := by decide +kernel
theorem dX9_asks_104 : decode cX9_asks 104 = .ok (.getfield 266, 3) := by decide +kernel
theorem dX9_asks_107 : decode cX9_asks 107 = .ok (.ifCond .eq 13, 3) := by decide +kernel
theorem dX9_asks_110 : decode cX9_asks 110 = .ok (.iload_n 3, 1) := by decide +kernel
theorem dX9_asks_111 : decode cX9_asks 111 = .ok (.iload 4, 2) := by decide +kernel
theorem dX9_asks_113 : decode cX9_asks 113 = .ok (.if_icmp .ge 7, 3) := by decide +kernel
theorem dX9_asks_116 : decode cX9_asks 116 = .ok (.iconst 1, 1) := by decide +kernel
theorem dX9_asks_117 : decode cX9_asks 117 = .ok (.goto 4, 3) := by decide +kernel
theorem dX9_asks_120 : decode cX9_asks 120 = .ok (.iconst 0, 1) := by decide +kernel
theorem dX9_asks_121 : decode cX9_asks 121 = .ok (.istore 5, 2) := by decide +kernel
theorem dX9_asks_123 : decode cX9_asks 123 = .ok (.iload 5, 2) := by decide +kernel
theorem dX9_asks_125 : decode cX9_asks 125 = .ok (.ifCond .eq 9, 3) := by decide +kernel
theorem dX9_asks_128 : decode cX9_asks 128 = .ok (.iload_n 3, 1) := by decide +kernel
theorem dX9_asks_129 : decode cX9_asks 129 = .ok (.iconst 1, 1) := by decide +kernel
theorem dX9_asks_130 : decode cX9_asks 130 = .ok (.iadd, 1) := by decide +kernel
theorem dX9_asks_131 : decode cX9_asks 131 = .ok (.goto 7, 3) := by decide +kernel
theorem dX9_asks_134 : decode cX9_asks 134 = .ok (.iload 4, 2) := by decide +kernel
theorem dX9_asks_136 : decode cX9_asks 136 = .ok (.iconst 1, 1) := by decide +kernel
theorem dX9_asks_137 : decode cX9_asks 137 = .ok (.iadd, 1) := by decide +kernel
theorem dX9_asks_138 : decode cX9_asks 138 = .ok (.istore 6, 2) := by decide +kernel
theorem dX9_asks_140 : decode cX9_asks 140 = .ok (.iload 5, 2) := by decide +kernel
theorem dX9_asks_142 : decode cX9_asks 142 = .ok (.ifCond .eq 14, 3) := by decide +kernel
theorem dX9_asks_145 : decode cX9_asks 145 = .ok (.aload_n 1, 1) := by decide +kernel
theorem dX9_asks_146 : decode cX9_asks 146 = .ok (.sipush 220, 3) := by decide +kernel
theorem dX9_asks_149 : decode cX9_asks 149 = .ok (.iload 6, 2) := by decide +kernel
theorem dX9_asks_151 : decode cX9_asks 151 = .ok (.iadd, 1) := by decide +kernel
theorem dX9_asks_152 : decode cX9_asks 152 = .ok (.iaload, 1) := by decide +kernel
theorem dX9_asks_153 : decode cX9_asks 153 = .ok (.goto 28, 3) := by decide +kernel
theorem dX9_asks_156 : decode cX9_asks 156 = .ok (.aload_n 1, 1) := by decide +kernel
theorem dX9_asks_157 : decode cX9_asks 157 = .ok (.sipush 220, 3) := by decide +kernel
theorem dX9_asks_160 : decode cX9_asks 160 = .ok (.iload 4, 2) := by decide +kernel
theorem dX9_asks_162 : decode cX9_asks 162 = .ok (.iadd, 1) := by decide +kernel
theorem dX9_asks_163 : decode cX9_asks 163 = .ok (.iaload, 1) := by decide +kernel
theorem dX9_asks_164 : decode cX9_asks 164 = .ok (.ifCond .le 16, 3) := by decide +kernel
theorem dX9_asks_167 : decode cX9_asks 167 = .ok (.aload_n 1, 1) := by decide +kernel
theorem dX9_asks_168 : decode cX9_asks 168 = .ok (.sipush 220, 3) := by decide +kernel
theorem dX9_asks_171 : decode cX9_asks 171 = .ok (.iload 4, 2) := by decide +kernel
theorem dX9_asks_173 : decode cX9_asks 173 = .ok (.iadd, 1) := by decide +kernel
theorem dX9_asks_174 : decode cX9_asks 174 = .ok (.iaload, 1) := by decide +kernel
theorem dX9_asks_175 : decode cX9_asks 175 = .ok (.iconst 1, 1) := by decide +kernel
theorem dX9_asks_176 : decode cX9_asks 176 = .ok (.isub, 1) := by decide +kernel
theorem dX9_asks_177 : decode cX9_asks 177 = .ok (.goto 4, 3) := by decide +kernel
theorem dX9_asks_180 : decode cX9_asks 180 = .ok (.iconst 0, 1) := by decide +kernel
theorem dX9_asks_181 : decode cX9_asks 181 = .ok (.istore 7, 2) := by decide +kernel
theorem dX9_asks_183 : decode cX9_asks 183 = .ok (.aload_n 1, 1) := by decide +kernel
theorem dX9_asks_184 : decode cX9_asks 184 = .ok (.sipush 289, 3) := by decide +kernel
theorem dX9_asks_187 : decode cX9_asks 187 = .ok (.iaload, 1) := by decide +kernel
theorem dX9_asks_188 : decode cX9_asks 188 = .ok (.istore 8, 2) := by decide +kernel
theorem dX9_asks_190 : decode cX9_asks 190 = .ok (.iload 8, 2) := by decide +kernel
theorem dX9_asks_192 : decode cX9_asks 192 = .ok (.iload 6, 2) := by decide +kernel
theorem dX9_asks_194 : decode cX9_asks 194 = .ok (.if_icmp .le 19, 3) := by decide +kernel
theorem dX9_asks_197 : decode cX9_asks 197 = .ok (.aload_n 1, 1) := by decide +kernel
theorem dX9_asks_198 : decode cX9_asks 198 = .ok (.iload 8, 2) := by decide +kernel
theorem dX9_asks_200 : decode cX9_asks 200 = .ok (.iconst 1, 1) := by decide +kernel
theorem dX9_asks_201 : decode cX9_asks 201 = .ok (.isub, 1) := by decide +kernel
theorem dX9_asks_202 : decode cX9_asks 202 = .ok (.iload 8, 2) := by decide +kernel
theorem dX9_asks_204 : decode cX9_asks 204 = .ok (.invokestatic 454, 3) := by decide +kernel
theorem dX9_asks_207 : decode cX9_asks 207 = .ok (.iinc 8 (-1), 3) := by decide +kernel
theorem dX9_asks_210 : decode cX9_asks 210 = .ok (.goto (-20), 3) := by decide +kernel
theorem dX9_asks_213 : decode cX9_asks 213 = .ok (.aload_n 1, 1) := by decide +kernel
theorem dX9_asks_214 : decode cX9_asks 214 = .ok (.sipush 204, 3) := by decide +kernel
theorem dX9_asks_217 : decode cX9_asks 217 = .ok (.iload 6, 2) := by decide +kernel
theorem dX9_asks_219 : decode cX9_asks 219 = .ok (.iadd, 1) := by decide +kernel
theorem dX9_asks_220 : decode cX9_asks 220 = .ok (.aload_n 1, 1) := by decide +kernel
theorem dX9_asks_221 : decode cX9_asks 221 = .ok (.sipush 290, 3) := by decide +kernel
theorem dX9_asks_224 : decode cX9_asks 224 = .ok (.iaload, 1) := by decide +kernel
theorem dX9_asks_225 : decode cX9_asks 225 = .ok (.iastore, 1) := by decide +kernel
theorem dX9_asks_226 : decode cX9_asks 226 = .ok (.aload_n 1, 1) := by decide +kernel
theorem dX9_asks_227 : decode cX9_asks 227 = .ok (.sipush 220, 3) := by decide +kernel
theorem dX9_asks_230 : decode cX9_asks 230 = .ok (.iload 6, 2) := by decide +kernel
theorem dX9_asks_232 : decode cX9_asks 232 = .ok (.iadd, 1) := by decide +kernel
theorem dX9_asks_233 : decode cX9_asks 233 = .ok (.iload 7, 2) := by decide +kernel
theorem dX9_asks_235 : decode cX9_asks 235 = .ok (.iastore, 1) := by decide +kernel
theorem dX9_asks_236 : decode cX9_asks 236 = .ok (.aload_n 1, 1) := by decide +kernel
theorem dX9_asks_237 : decode cX9_asks 237 = .ok (.sipush 236, 3) := by decide +kernel
theorem dX9_asks_240 : decode cX9_asks 240 = .ok (.iload 6, 2) := by decide +kernel
theorem dX9_asks_242 : decode cX9_asks 242 = .ok (.iadd, 1) := by decide +kernel
theorem dX9_asks_243 : decode cX9_asks 243 = .ok (.aload_n 0, 1) := by decide +kernel
theorem dX9_asks_244 : decode cX9_asks 244 = .ok (.getfield 389, 3) := by decide +kernel
theorem dX9_asks_247 : decode cX9_asks 247 = .ok (.getfield 340, 3) := by decide +kernel
theorem dX9_asks_250 : decode cX9_asks 250 = .ok (.iload_n 2, 1) := by decide +kernel
theorem dX9_asks_251 : decode cX9_asks 251 = .ok (.iaload, 1) := by decide +kernel
theorem dX9_asks_252 : decode cX9_asks 252 = .ok (.iastore, 1) := by decide +kernel
theorem dX9_asks_253 : decode cX9_asks 253 = .ok (.aload_n 1, 1) := by decide +kernel
theorem dX9_asks_254 : decode cX9_asks 254 = .ok (.sipush 252, 3) := by decide +kernel
theorem dX9_asks_257 : decode cX9_asks 257 = .ok (.iload 6, 2) := by decide +kernel
theorem dX9_asks_259 : decode cX9_asks 259 = .ok (.iadd, 1) := by decide +kernel
theorem dX9_asks_260 : decode cX9_asks 260 = .ok (.aload_n 0, 1) := by decide +kernel
theorem dX9_asks_261 : decode cX9_asks 261 = .ok (.getfield 389, 3) := by decide +kernel
theorem dX9_asks_264 : decode cX9_asks 264 = .ok (.getfield 343, 3) := by decide +kernel
theorem dX9_asks_267 : decode cX9_asks 267 = .ok (.iload_n 2, 1) := by decide +kernel
theorem dX9_asks_268 : decode cX9_asks 268 = .ok (.iaload, 1) := by decide +kernel
theorem dX9_asks_269 : decode cX9_asks 269 = .ok (.iastore, 1) := by decide +kernel
theorem dX9_asks_270 : decode cX9_asks 270 = .ok (.aload_n 1, 1) := by decide +kernel
theorem dX9_asks_271 : decode cX9_asks 271 = .ok (.sipush 268, 3) := by decide +kernel
theorem dX9_asks_274 : decode cX9_asks 274 = .ok (.iload 6, 2) := by decide +kernel
theorem dX9_asks_276 : decode cX9_asks 276 = .ok (.iadd, 1) := by decide +kernel
theorem dX9_asks_277 : decode cX9_asks 277 = .ok (.aload_n 0, 1) := by decide +kernel
theorem dX9_asks_278 : decode cX9_asks 278 = .ok (.getfield 389, 3) := by decide +kernel
theorem dX9_asks_281 : decode cX9_asks 281 = .ok (.getfield 346, 3) := by decide +kernel
theorem dX9_asks_284 : decode cX9_asks 284 = .ok (.iload_n 2, 1) := by decide +kernel
theorem dX9_asks_285 : decode cX9_asks 285 = .ok (.iaload, 1) := by decide +kernel
theorem dX9_asks_286 : decode cX9_asks 286 = .ok (.iastore, 1) := by decide +kernel
theorem dX9_asks_287 : decode cX9_asks 287 = .ok (.aload_n 1, 1) := by decide +kernel
theorem dX9_asks_288 : decode cX9_asks 288 = .ok (.sipush 289, 3) := by decide +kernel
theorem dX9_asks_291 : decode cX9_asks 291 = .ok (.dup2, 1) := by decide +kernel
theorem dX9_asks_292 : decode cX9_asks 292 = .ok (.iaload, 1) := by decide +kernel
theorem dX9_asks_293 : decode cX9_asks 293 = .ok (.iconst 1, 1) := by decide +kernel
theorem dX9_asks_294 : decode cX9_asks 294 = .ok (.iadd, 1) := by decide +kernel
theorem dX9_asks_295 : decode cX9_asks 295 = .ok (.iastore, 1) := by decide +kernel
theorem dX9_asks_296 : decode cX9_asks 296 = .ok (.aload_n 1, 1) := by decide +kernel
theorem dX9_asks_297 : decode cX9_asks 297 = .ok (.sipush 290, 3) := by decide +kernel
theorem dX9_asks_300 : decode cX9_asks 300 = .ok (.dup2, 1) := by decide +kernel
theorem dX9_asks_301 : decode cX9_asks 301 = .ok (.iaload, 1) := by decide +kernel
theorem dX9_asks_302 : decode cX9_asks 302 = .ok (.iconst 1, 1) := by decide +kernel
theorem dX9_asks_303 : decode cX9_asks 303 = .ok (.iadd, 1) := by decide +kernel
theorem dX9_asks_304 : decode cX9_asks 304 = .ok (.iastore, 1) := by decide +kernel
theorem dX9_asks_305 : decode cX9_asks 305 = .ok (.aload_n 1, 1) := by decide +kernel
theorem dX9_asks_306 : decode cX9_asks 306 = .ok (.sipush 284, 3) := by decide +kernel
theorem dX9_asks_309 : decode cX9_asks 309 = .ok (.iload_n 2, 1) := by decide +kernel
theorem dX9_asks_310 : decode cX9_asks 310 = .ok (.iadd, 1) := by decide +kernel
theorem dX9_asks_311 : decode cX9_asks 311 = .ok (.dup2, 1) := by decide +kernel
theorem dX9_asks_312 : decode cX9_asks 312 = .ok (.iaload, 1) := by decide +kernel
theorem dX9_asks_313 : decode cX9_asks 313 = .ok (.iconst 1, 1) := by decide +kernel
theorem dX9_asks_314 : decode cX9_asks 314 = .ok (.isub, 1) := by decide +kernel
theorem dX9_asks_315 : decode cX9_asks 315 = .ok (.iastore, 1) := by decide +kernel
theorem dX9_asks_316 : decode cX9_asks 316 = .ok (.aload_n 0, 1) := by decide +kernel
theorem dX9_asks_317 : decode cX9_asks 317 = .ok (.dup, 1) := by decide +kernel
theorem dX9_asks_318 : decode cX9_asks 318 = .ok (.getfield 472, 3) := by decide +kernel
theorem dX9_asks_321 : decode cX9_asks 321 = .ok (.iconst 1, 1) := by decide +kernel
theorem dX9_asks_322 : decode cX9_asks 322 = .ok (.iadd, 1) := by decide +kernel
theorem dX9_asks_323 : decode cX9_asks 323 = .ok (.putfield 472, 3) := by decide +kernel
theorem dX9_asks_326 : decode cX9_asks 326 = .ok (.return_, 1) := by decide +kernel
theorem dX9_beats_0 : decode cX9_beats 0 = .ok (.aload_n 0, 1) := by decide +kernel
theorem dX9_beats_1 : decode cX9_beats 1 = .ok (.iconst (-1), 1) := by decide +kernel
theorem dX9_beats_2 : decode cX9_beats 2 = .ok (.putfield 474, 3) := by decide +kernel
theorem dX9_beats_5 : decode cX9_beats 5 = .ok (.aload_n 1, 1) := by decide +kernel
theorem dX9_beats_6 : decode cX9_beats 6 = .ok (.invokestatic 477, 3) := by decide +kernel
theorem dX9_beats_9 : decode cX9_beats 9 = .ok (.ifCond .le 4, 3) := by decide +kernel
theorem dX9_beats_12 : decode cX9_beats 12 = .ok (.return_, 1) := by decide +kernel
theorem dX9_beats_13 : decode cX9_beats 13 = .ok (.iload_n 2, 1) := by decide +kernel
theorem dX9_beats_14 : decode cX9_beats 14 = .ok (.ifCond .eq 7, 3) := by decide +kernel
theorem dX9_beats_17 : decode cX9_beats 17 = .ok (.iconst 0, 1) := by decide +kernel
theorem dX9_beats_18 : decode cX9_beats 18 = .ok (.goto 38, 3) := by decide +kernel
theorem dX9_beats_21 : decode cX9_beats 21 = .ok (.aload_n 0, 1) := by decide +kernel
theorem dX9_beats_22 : decode cX9_beats 22 = .ok (.getfield 480, 3) := by decide +kernel
theorem dX9_beats_25 : decode cX9_beats 25 = .ok (.ifCond .le 10, 3) := by decide +kernel
theorem dX9_beats_28 : decode cX9_beats 28 = .ok (.aload_n 0, 1) := by decide +kernel
theorem dX9_beats_29 : decode cX9_beats 29 = .ok (.getfield 480, 3) := by decide +kernel
theorem dX9_beats_32 : decode cX9_beats 32 = .ok (.goto 24, 3) := by decide +kernel
theorem dX9_beats_35 : decode cX9_beats 35 = .ok (.aload_n 0, 1) := by decide +kernel
theorem dX9_beats_36 : decode cX9_beats 36 = .ok (.getfield 389, 3) := by decide +kernel
theorem dX9_beats_39 : decode cX9_beats 39 = .ok (.getfield 289, 3) := by decide +kernel
theorem dX9_beats_42 : decode cX9_beats 42 = .ok (.aload_n 1, 1) := by decide +kernel
theorem dX9_beats_43 : decode cX9_beats 43 = .ok (.sipush 294, 3) := by decide +kernel
theorem dX9_beats_46 : decode cX9_beats 46 = .ok (.iaload, 1) := by decide +kernel
theorem dX9_beats_47 : decode cX9_beats 47 = .ok (.aload_n 0, 1) := by decide +kernel
theorem dX9_beats_48 : decode cX9_beats 48 = .ok (.getfield 389, 3) := by decide +kernel
theorem dX9_beats_51 : decode cX9_beats 51 = .ok (.getfield 206, 3) := by decide +kernel
theorem dX9_beats_54 : decode cX9_beats 54 = .ok (.irem, 1) := by decide +kernel
theorem dX9_beats_55 : decode cX9_beats 55 = .ok (.iaload, 1) := by decide +kernel
theorem dX9_beats_56 : decode cX9_beats 56 = .ok (.istore_n 3, 1) := by decide +kernel
theorem dX9_beats_57 : decode cX9_beats 57 = .ok (.aload_n 1, 1) := by decide +kernel
theorem dX9_beats_58 : decode cX9_beats 58 = .ok (.sipush 294, 3) := by decide +kernel
theorem dX9_beats_61 : decode cX9_beats 61 = .ok (.dup2, 1) := by decide +kernel
theorem dX9_beats_62 : decode cX9_beats 62 = .ok (.iaload, 1) := by decide +kernel
theorem dX9_beats_63 : decode cX9_beats 63 = .ok (.iconst 1, 1) := by decide +kernel
theorem dX9_beats_64 : decode cX9_beats 64 = .ok (.iadd, 1) := by decide +kernel
theorem dX9_beats_65 : decode cX9_beats 65 = .ok (.iastore, 1) := by decide +kernel
theorem dX9_beats_66 : decode cX9_beats 66 = .ok (.aload_n 0, 1) := by decide +kernel
theorem dX9_beats_67 : decode cX9_beats 67 = .ok (.aload_n 1, 1) := by decide +kernel
theorem dX9_beats_68 : decode cX9_beats 68 = .ok (.iload_n 3, 1) := by decide +kernel
theorem dX9_beats_69 : decode cX9_beats 69 = .ok (.invokevirtual 483, 3) := by decide +kernel
theorem dX9_beats_72 : decode cX9_beats 72 = .ok (.aload_n 1, 1) := by decide +kernel
theorem dX9_beats_73 : decode cX9_beats 73 = .ok (.sipush 297, 3) := by decide +kernel
theorem dX9_beats_76 : decode cX9_beats 76 = .ok (.iaload, 1) := by decide +kernel
theorem dX9_beats_77 : decode cX9_beats 77 = .ok (.iconst 1, 1) := by decide +kernel
theorem dX9_beats_78 : decode cX9_beats 78 = .ok (.if_icmp .ne 4, 3) := by decide +kernel
theorem dX9_beats_81 : decode cX9_beats 81 = .ok (.return_, 1) := by decide +kernel
theorem dX9_beats_82 : decode cX9_beats 82 = .ok (.iconst 1, 1) := by decide +kernel
theorem dX9_beats_83 : decode cX9_beats 83 = .ok (.istore 4, 2) := by decide +kernel
theorem dX9_beats_85 : decode cX9_beats 85 = .ok (.iload 4, 2) := by decide +kernel
theorem dX9_beats_87 : decode cX9_beats 87 = .ok (.aload_n 1, 1) := by decide +kernel
theorem dX9_beats_88 : decode cX9_beats 88 = .ok (.sipush 289, 3) := by decide +kernel
theorem dX9_beats_91 : decode cX9_beats 91 = .ok (.iaload, 1) := by decide +kernel
theorem dX9_beats_92 : decode cX9_beats 92 = .ok (.if_icmp .ge 16, 3) := by decide +kernel
theorem dX9_beats_95 : decode cX9_beats 95 = .ok (.aload_n 0, 1) := by decide +kernel
theorem dX9_beats_96 : decode cX9_beats 96 = .ok (.aload_n 1, 1) := by decide +kernel
theorem dX9_beats_97 : decode cX9_beats 97 = .ok (.iload 4, 2) := by decide +kernel
theorem dX9_beats_99 : decode cX9_beats 99 = .ok (.invokevirtual 486, 3) := by decide +kernel
theorem dX9_beats_102 : decode cX9_beats 102 = .ok (.iinc 4 1, 3) := by decide +kernel
theorem dX9_beats_105 : decode cX9_beats 105 = .ok (.goto (-20), 3) := by decide +kernel
theorem dX9_beats_108 : decode cX9_beats 108 = .ok (.aload_n 0, 1) := by decide +kernel
theorem dX9_beats_109 : decode cX9_beats 109 = .ok (.aload_n 0, 1) := by decide +kernel
theorem dX9_beats_110 : decode cX9_beats 110 = .ok (.aload_n 1, 1) := by decide +kernel
theorem dX9_beats_111 : decode cX9_beats 111 = .ok (.invokevirtual 489, 3) := by decide +kernel
theorem dX9_beats_114 : decode cX9_beats 114 = .ok (.putfield 474, 3) := by decide +kernel
theorem dX9_beats_117 : decode cX9_beats 117 = .ok (.aload_n 0, 1) := by decide +kernel
theorem dX9_beats_118 : decode cX9_beats 118 = .ok (.aload_n 1, 1) := by decide +kernel
theorem dX9_beats_119 : decode cX9_beats 119 = .ok (.invokevirtual 492, 3) := by decide +kernel
theorem dX9_beats_122 : decode cX9_beats 122 = .ok (.iconst 0, 1) := by decide +kernel
theorem dX9_beats_123 : decode cX9_beats 123 = .ok (.istore 4, 2) := by decide +kernel
theorem dX9_beats_125 : decode cX9_beats 125 = .ok (.iload 4, 2) := by decide +kernel
theorem dX9_beats_127 : decode cX9_beats 127 = .ok (.aload_n 0, 1) := by decide +kernel
theorem dX9_beats_128 : decode cX9_beats 128 = .ok (.getfield 389, 3) := by decide +kernel
theorem dX9_beats_131 : decode cX9_beats 131 = .ok (.getfield 311, 3) := by decide +kernel
theorem dX9_beats_134 : decode cX9_beats 134 = .ok (.if_icmp .ge 16, 3) := by decide +kernel
theorem dX9_beats_137 : decode cX9_beats 137 = .ok (.aload_n 0, 1) := by decide +kernel
theorem dX9_beats_138 : decode cX9_beats 138 = .ok (.aload_n 1, 1) := by decide +kernel
theorem dX9_beats_139 : decode cX9_beats 139 = .ok (.iload 4, 2) := by decide +kernel
theorem dX9_beats_141 : decode cX9_beats 141 = .ok (.invokevirtual 495, 3) := by decide +kernel
theorem dX9_beats_144 : decode cX9_beats 144 = .ok (.iinc 4 1, 3) := by decide +kernel
theorem dX9_beats_147 : decode cX9_beats 147 = .ok (.goto (-22), 3) := by decide +kernel
theorem dX9_beats_150 : decode cX9_beats 150 = .ok (.return_, 1) := by decide +kernel
theorem dX9_copies_0 : decode cX9_copies 0 = .ok (.iconst 0, 1) := by decide +kernel
theorem dX9_copies_1 : decode cX9_copies 1 = .ok (.istore_n 1, 1) := by decide +kernel
theorem dX9_copies_2 : decode cX9_copies 2 = .ok (.iload_n 1, 1) := by decide +kernel
theorem dX9_copies_3 : decode cX9_copies 3 = .ok (.sipush 298, 3) := by decide +kernel
theorem dX9_copies_6 : decode cX9_copies 6 = .ok (.if_icmp .ge 21, 3) := by decide +kernel
theorem dX9_copies_9 : decode cX9_copies 9 = .ok (.aload_n 0, 1) := by decide +kernel
theorem dX9_copies_10 : decode cX9_copies 10 = .ok (.getfield 24, 3) := by decide +kernel
theorem dX9_copies_13 : decode cX9_copies 13 = .ok (.iload_n 1, 1) := by decide +kernel
theorem dX9_copies_14 : decode cX9_copies 14 = .ok (.aload_n 0, 1) := by decide +kernel
theorem dX9_copies_15 : decode cX9_copies 15 = .ok (.getfield 21, 3) := by decide +kernel
theorem dX9_copies_18 : decode cX9_copies 18 = .ok (.iload_n 1, 1) := by decide +kernel
theorem dX9_copies_19 : decode cX9_copies 19 = .ok (.iaload, 1) := by decide +kernel
theorem dX9_copies_20 : decode cX9_copies 20 = .ok (.iastore, 1) := by decide +kernel
theorem dX9_copies_21 : decode cX9_copies 21 = .ok (.iinc 1 1, 3) := by decide +kernel
theorem dX9_copies_24 : decode cX9_copies 24 = .ok (.goto (-22), 3) := by decide +kernel
theorem dX9_copies_27 : decode cX9_copies 27 = .ok (.return_, 1) := by decide +kernel
theorem dX9_plainly_0 : decode cX9_plainly 0 = .ok (.aload_n 0, 1) := by decide +kernel
theorem dX9_plainly_1 : decode cX9_plainly 1 = .ok (.iconst 0, 1) := by decide +kernel
theorem dX9_plainly_2 : decode cX9_plainly 2 = .ok (.putfield 480, 3) := by decide +kernel
theorem dX9_plainly_5 : decode cX9_plainly 5 = .ok (.aload_n 0, 1) := by decide +kernel
theorem dX9_plainly_6 : decode cX9_plainly 6 = .ok (.aload_n 0, 1) := by decide +kernel
theorem dX9_plainly_7 : decode cX9_plainly 7 = .ok (.getfield 389, 3) := by decide +kernel
theorem dX9_plainly_10 : decode cX9_plainly 10 = .ok (.getfield 305, 3) := by decide +kernel
theorem dX9_plainly_13 : decode cX9_plainly 13 = .ok (.putfield 446, 3) := by decide +kernel
theorem dX9_plainly_16 : decode cX9_plainly 16 = .ok (.iconst 0, 1) := by decide +kernel
theorem dX9_plainly_17 : decode cX9_plainly 17 = .ok (.istore_n 1, 1) := by decide +kernel
theorem dX9_plainly_18 : decode cX9_plainly 18 = .ok (.iload_n 1, 1) := by decide +kernel
theorem dX9_plainly_19 : decode cX9_plainly 19 = .ok (.bipush 12, 2) := by decide +kernel
theorem dX9_plainly_21 : decode cX9_plainly 21 = .ok (.if_icmp .ge 24, 3) := by decide +kernel
theorem dX9_plainly_24 : decode cX9_plainly 24 = .ok (.aload_n 0, 1) := by decide +kernel
theorem dX9_plainly_25 : decode cX9_plainly 25 = .ok (.getfield 39, 3) := by decide +kernel
theorem dX9_plainly_28 : decode cX9_plainly 28 = .ok (.iload_n 1, 1) := by decide +kernel
theorem dX9_plainly_29 : decode cX9_plainly 29 = .ok (.aload_n 0, 1) := by decide +kernel
theorem dX9_plainly_30 : decode cX9_plainly 30 = .ok (.getfield 389, 3) := by decide +kernel
theorem dX9_plainly_33 : decode cX9_plainly 33 = .ok (.getfield 308, 3) := by decide +kernel
theorem dX9_plainly_36 : decode cX9_plainly 36 = .ok (.iload_n 1, 1) := by decide +kernel
theorem dX9_plainly_37 : decode cX9_plainly 37 = .ok (.iaload, 1) := by decide +kernel
theorem dX9_plainly_38 : decode cX9_plainly 38 = .ok (.iastore, 1) := by decide +kernel
theorem dX9_plainly_39 : decode cX9_plainly 39 = .ok (.iinc 1 1, 3) := by decide +kernel
theorem dX9_plainly_42 : decode cX9_plainly 42 = .ok (.goto (-24), 3) := by decide +kernel
theorem dX9_plainly_45 : decode cX9_plainly 45 = .ok (.iconst 0, 1) := by decide +kernel
theorem dX9_plainly_46 : decode cX9_plainly 46 = .ok (.istore_n 1, 1) := by decide +kernel
theorem dX9_plainly_47 : decode cX9_plainly 47 = .ok (.iload_n 1, 1) := by decide +kernel
theorem dX9_plainly_48 : decode cX9_plainly 48 = .ok (.aload_n 0, 1) := by decide +kernel
theorem dX9_plainly_49 : decode cX9_plainly 49 = .ok (.getfield 42, 3) := by decide +kernel
theorem dX9_plainly_52 : decode cX9_plainly 52 = .ok (.arraylength, 1) := by decide +kernel
theorem dX9_plainly_53 : decode cX9_plainly 53 = .ok (.if_icmp .ge 16, 3) := by decide +kernel
theorem dX9_plainly_56 : decode cX9_plainly 56 = .ok (.aload_n 0, 1) := by decide +kernel
theorem dX9_plainly_57 : decode cX9_plainly 57 = .ok (.getfield 42, 3) := by decide +kernel
theorem dX9_plainly_60 : decode cX9_plainly 60 = .ok (.iload_n 1, 1) := by decide +kernel
theorem dX9_plainly_61 : decode cX9_plainly 61 = .ok (.iconst 0, 1) := by decide +kernel
theorem dX9_plainly_62 : decode cX9_plainly 62 = .ok (.iastore, 1) := by decide +kernel
theorem dX9_plainly_63 : decode cX9_plainly 63 = .ok (.iinc 1 1, 3) := by decide +kernel
theorem dX9_plainly_66 : decode cX9_plainly 66 = .ok (.goto (-19), 3) := by decide +kernel
theorem dX9_plainly_69 : decode cX9_plainly 69 = .ok (.aload_n 0, 1) := by decide +kernel
theorem dX9_plainly_70 : decode cX9_plainly 70 = .ok (.iconst 0, 1) := by decide +kernel
theorem dX9_plainly_71 : decode cX9_plainly 71 = .ok (.putfield 461, 3) := by decide +kernel
theorem dX9_plainly_74 : decode cX9_plainly 74 = .ok (.aload_n 0, 1) := by decide +kernel
theorem dX9_plainly_75 : decode cX9_plainly 75 = .ok (.iconst 0, 1) := by decide +kernel
theorem dX9_plainly_76 : decode cX9_plainly 76 = .ok (.putfield 472, 3) := by decide +kernel
theorem dX9_plainly_79 : decode cX9_plainly 79 = .ok (.return_, 1) := by decide +kernel
theorem dX9_dances_0 : decode cX9_dances 0 = .ok (.aload_n 0, 1) := by decide +kernel
theorem dX9_dances_1 : decode cX9_dances 1 = .ok (.invokevirtual 498, 3) := by decide +kernel
theorem dX9_dances_4 : decode cX9_dances 4 = .ok (.aload_n 0, 1) := by decide +kernel
theorem dX9_dances_5 : decode cX9_dances 5 = .ok (.invokevirtual 501, 3) := by decide +kernel
theorem dX9_dances_8 : decode cX9_dances 8 = .ok (.iconst 0, 1) := by decide +kernel
theorem dX9_dances_9 : decode cX9_dances 9 = .ok (.istore_n 2, 1) := by decide +kernel
theorem dX9_dances_10 : decode cX9_dances 10 = .ok (.iload_n 2, 1) := by decide +kernel
theorem dX9_dances_11 : decode cX9_dances 11 = .ok (.iload_n 1, 1) := by decide +kernel
theorem dX9_dances_12 : decode cX9_dances 12 = .ok (.if_icmp .ge 18, 3) := by decide +kernel
theorem dX9_dances_15 : decode cX9_dances 15 = .ok (.aload_n 0, 1) := by decide +kernel
theorem dX9_dances_16 : decode cX9_dances 16 = .ok (.aload_n 0, 1) := by decide +kernel
theorem dX9_dances_17 : decode cX9_dances 17 = .ok (.getfield 24, 3) := by decide +kernel
theorem dX9_dances_20 : decode cX9_dances 20 = .ok (.iconst 0, 1) := by decide +kernel
theorem dX9_dances_21 : decode cX9_dances 21 = .ok (.invokevirtual 504, 3) := by decide +kernel
theorem dX9_dances_24 : decode cX9_dances 24 = .ok (.iinc 2 1, 3) := by decide +kernel
theorem dX9_dances_27 : decode cX9_dances 27 = .ok (.goto (-17), 3) := by decide +kernel
theorem dX9_dances_30 : decode cX9_dances 30 = .ok (.return_, 1) := by decide +kernel
theorem dX9_indexOf_0 : decode cX9_indexOf 0 = .ok (.iconst 0, 1) := by decide +kernel
theorem dX9_indexOf_1 : decode cX9_indexOf 1 = .ok (.istore_n 2, 1) := by decide +kernel
theorem dX9_indexOf_2 : decode cX9_indexOf 2 = .ok (.iload_n 2, 1) := by decide +kernel
theorem dX9_indexOf_3 : decode cX9_indexOf 3 = .ok (.aload_n 0, 1) := by decide +kernel
theorem dX9_indexOf_4 : decode cX9_indexOf 4 = .ok (.sipush 289, 3) := by decide +kernel
theorem dX9_indexOf_7 : decode cX9_indexOf 7 = .ok (.iaload, 1) := by decide +kernel
theorem dX9_indexOf_8 : decode cX9_indexOf 8 = .ok (.if_icmp .ge 22, 3) := by decide +kernel
theorem dX9_indexOf_11 : decode cX9_indexOf 11 = .ok (.aload_n 0, 1) := by decide +kernel
theorem dX9_indexOf_12 : decode cX9_indexOf 12 = .ok (.sipush 204, 3) := by decide +kernel
theorem dX9_indexOf_15 : decode cX9_indexOf 15 = .ok (.iload_n 2, 1) := by decide +kernel
theorem dX9_indexOf_16 : decode cX9_indexOf 16 = .ok (.iadd, 1) := by decide +kernel
theorem dX9_indexOf_17 : decode cX9_indexOf 17 = .ok (.iaload, 1) := by decide +kernel
theorem dX9_indexOf_18 : decode cX9_indexOf 18 = .ok (.iload_n 1, 1) := by decide +kernel
theorem dX9_indexOf_19 : decode cX9_indexOf 19 = .ok (.if_icmp .ne 5, 3) := by decide +kernel
theorem dX9_indexOf_22 : decode cX9_indexOf 22 = .ok (.iload_n 2, 1) := by decide +kernel
theorem dX9_indexOf_23 : decode cX9_indexOf 23 = .ok (.ireturn, 1) := by decide +kernel
theorem dX9_indexOf_24 : decode cX9_indexOf 24 = .ok (.iinc 2 1, 3) := by decide +kernel
theorem dX9_indexOf_27 : decode cX9_indexOf 27 = .ok (.goto (-25), 3) := by decide +kernel
theorem dX9_indexOf_30 : decode cX9_indexOf 30 = .ok (.iconst (-1), 1) := by decide +kernel
theorem dX9_indexOf_31 : decode cX9_indexOf 31 = .ok (.ireturn, 1) := by decide +kernel
theorem dX9_isCell_0 : decode cX9_isCell 0 = .ok (.aload_n 0, 1) := by decide +kernel
theorem dX9_isCell_1 : decode cX9_isCell 1 = .ok (.getfield 389, 3) := by decide +kernel
theorem dX9_isCell_4 : decode cX9_isCell 4 = .ok (.ifnull 41, 3) := by decide +kernel
theorem dX9_isCell_7 : decode cX9_isCell 7 = .ok (.iload_n 1, 1) := by decide +kernel
theorem dX9_isCell_8 : decode cX9_isCell 8 = .ok (.iconst 0, 1) := by decide +kernel
theorem dX9_isCell_9 : decode cX9_isCell 9 = .ok (.aload_n 0, 1) := by decide +kernel
theorem dX9_isCell_10 : decode cX9_isCell 10 = .ok (.getfield 389, 3) := by decide +kernel
theorem dX9_isCell_13 : decode cX9_isCell 13 = .ok (.getfield 154, 3) := by decide +kernel
theorem dX9_isCell_16 : decode cX9_isCell 16 = .ok (.iconst 1, 1) := by decide +kernel
theorem dX9_isCell_17 : decode cX9_isCell 17 = .ok (.isub, 1) := by decide +kernel
theorem dX9_isCell_18 : decode cX9_isCell 18 = .ok (.invokestatic 135, 3) := by decide +kernel
theorem dX9_isCell_21 : decode cX9_isCell 21 = .ok (.ifCond .eq 24, 3) := by decide +kernel
theorem dX9_isCell_24 : decode cX9_isCell 24 = .ok (.iload_n 2, 1) := by decide +kernel
theorem dX9_isCell_25 : decode cX9_isCell 25 = .ok (.iconst 0, 1) := by decide +kernel
theorem dX9_isCell_26 : decode cX9_isCell 26 = .ok (.aload_n 0, 1) := by decide +kernel
theorem dX9_isCell_27 : decode cX9_isCell 27 = .ok (.getfield 389, 3) := by decide +kernel
theorem dX9_isCell_30 : decode cX9_isCell 30 = .ok (.getfield 161, 3) := by decide +kernel
theorem dX9_isCell_33 : decode cX9_isCell 33 = .ok (.iconst 1, 1) := by decide +kernel
theorem dX9_isCell_34 : decode cX9_isCell 34 = .ok (.isub, 1) := by decide +kernel
theorem dX9_isCell_35 : decode cX9_isCell 35 = .ok (.invokestatic 135, 3) := by decide +kernel
theorem dX9_isCell_38 : decode cX9_isCell 38 = .ok (.ifCond .eq 7, 3) := by decide +kernel
theorem dX9_isCell_41 : decode cX9_isCell 41 = .ok (.iconst 1, 1) := by decide +kernel
theorem dX9_isCell_42 : decode cX9_isCell 42 = .ok (.goto 4, 3) := by decide +kernel
theorem dX9_isCell_45 : decode cX9_isCell 45 = .ok (.iconst 0, 1) := by decide +kernel
theorem dX9_isCell_46 : decode cX9_isCell 46 = .ok (.ireturn, 1) := by decide +kernel
theorem dX9_cell_0 : decode cX9_cell 0 = .ok (.aload_n 0, 1) := by decide +kernel
theorem dX9_cell_1 : decode cX9_cell 1 = .ok (.iconst 0, 1) := by decide +kernel
theorem dX9_cell_2 : decode cX9_cell 2 = .ok (.putfield 54, 3) := by decide +kernel
theorem dX9_cell_5 : decode cX9_cell 5 = .ok (.aload_n 0, 1) := by decide +kernel
theorem dX9_cell_6 : decode cX9_cell 6 = .ok (.iload_n 1, 1) := by decide +kernel
theorem dX9_cell_7 : decode cX9_cell 7 = .ok (.iload_n 2, 1) := by decide +kernel
theorem dX9_cell_8 : decode cX9_cell 8 = .ok (.invokevirtual 508, 3) := by decide +kernel
theorem dX9_cell_11 : decode cX9_cell 11 = .ok (.ifCond .eq 29, 3) := by decide +kernel
theorem dX9_cell_14 : decode cX9_cell 14 = .ok (.aload_n 0, 1) := by decide +kernel
theorem dX9_cell_15 : decode cX9_cell 15 = .ok (.aload_n 0, 1) := by decide +kernel
theorem dX9_cell_16 : decode cX9_cell 16 = .ok (.getfield 389, 3) := by decide +kernel
theorem dX9_cell_19 : decode cX9_cell 19 = .ok (.getfield 275, 3) := by decide +kernel
theorem dX9_cell_22 : decode cX9_cell 22 = .ok (.aload_n 0, 1) := by decide +kernel
theorem dX9_cell_23 : decode cX9_cell 23 = .ok (.getfield 389, 3) := by decide +kernel
theorem dX9_cell_26 : decode cX9_cell 26 = .ok (.getfield 154, 3) := by decide +kernel
theorem dX9_cell_29 : decode cX9_cell 29 = .ok (.iload_n 2, 1) := by decide +kernel
theorem dX9_cell_30 : decode cX9_cell 30 = .ok (.imul, 1) := by decide +kernel
theorem dX9_cell_31 : decode cX9_cell 31 = .ok (.iload_n 1, 1) := by decide +kernel
theorem dX9_cell_32 : decode cX9_cell 32 = .ok (.iadd, 1) := by decide +kernel
theorem dX9_cell_33 : decode cX9_cell 33 = .ok (.iaload, 1) := by decide +kernel
theorem dX9_cell_34 : decode cX9_cell 34 = .ok (.invokevirtual 64, 3) := by decide +kernel
theorem dX9_cell_37 : decode cX9_cell 37 = .ok (.goto 8, 3) := by decide +kernel
theorem dX9_cell_40 : decode cX9_cell 40 = .ok (.aload_n 0, 1) := by decide +kernel
theorem dX9_cell_41 : decode cX9_cell 41 = .ok (.iconst 1, 1) := by decide +kernel
theorem dX9_cell_42 : decode cX9_cell 42 = .ok (.invokevirtual 60, 3) := by decide +kernel
theorem dX9_cell_45 : decode cX9_cell 45 = .ok (.ireturn, 1) := by decide +kernel
theorem dX9_many_0 : decode cX9_many 0 = .ok (.aload_n 0, 1) := by decide +kernel
theorem dX9_many_1 : decode cX9_many 1 = .ok (.iconst 0, 1) := by decide +kernel
theorem dX9_many_2 : decode cX9_many 2 = .ok (.putfield 54, 3) := by decide +kernel
theorem dX9_many_5 : decode cX9_many 5 = .ok (.aload_n 0, 1) := by decide +kernel
theorem dX9_many_6 : decode cX9_many 6 = .ok (.getfield 389, 3) := by decide +kernel
theorem dX9_many_9 : decode cX9_many 9 = .ok (.ifnonnull 11, 3) := by decide +kernel
theorem dX9_many_12 : decode cX9_many 12 = .ok (.aload_n 0, 1) := by decide +kernel
theorem dX9_many_13 : decode cX9_many 13 = .ok (.iconst 1, 1) := by decide +kernel
theorem dX9_many_14 : decode cX9_many 14 = .ok (.invokevirtual 60, 3) := by decide +kernel
theorem dX9_many_17 : decode cX9_many 17 = .ok (.goto 15, 3) := by decide +kernel
theorem dX9_many_20 : decode cX9_many 20 = .ok (.aload_n 0, 1) := by decide +kernel
theorem dX9_many_21 : decode cX9_many 21 = .ok (.aload_n 0, 1) := by decide +kernel
theorem dX9_many_22 : decode cX9_many 22 = .ok (.getfield 21, 3) := by decide +kernel
theorem dX9_many_25 : decode cX9_many 25 = .ok (.sipush 289, 3) := by decide +kernel
theorem dX9_many_28 : decode cX9_many 28 = .ok (.iaload, 1) := by decide +kernel
theorem dX9_many_29 : decode cX9_many 29 = .ok (.invokevirtual 64, 3) := by decide +kernel
theorem dX9_many_32 : decode cX9_many 32 = .ok (.ireturn, 1) := by decide +kernel
theorem dX9_isThere_0 : decode cX9_isThere 0 = .ok (.aload_n 0, 1) := by decide +kernel
theorem dX9_isThere_1 : decode cX9_isThere 1 = .ok (.getfield 389, 3) := by decide +kernel
theorem dX9_isThere_4 : decode cX9_isThere 4 = .ok (.ifnull 23, 3) := by decide +kernel
theorem dX9_isThere_7 : decode cX9_isThere 7 = .ok (.iload_n 1, 1) := by decide +kernel
theorem dX9_isThere_8 : decode cX9_isThere 8 = .ok (.ifCond .lt 19, 3) := by decide +kernel
theorem dX9_isThere_11 : decode cX9_isThere 11 = .ok (.iload_n 1, 1) := by decide +kernel
theorem dX9_isThere_12 : decode cX9_isThere 12 = .ok (.aload_n 0, 1) := by decide +kernel
theorem dX9_isThere_13 : decode cX9_isThere 13 = .ok (.getfield 21, 3) := by decide +kernel
theorem dX9_isThere_16 : decode cX9_isThere 16 = .ok (.sipush 289, 3) := by decide +kernel
theorem dX9_isThere_19 : decode cX9_isThere 19 = .ok (.iaload, 1) := by decide +kernel
theorem dX9_isThere_20 : decode cX9_isThere 20 = .ok (.if_icmp .ge 7, 3) := by decide +kernel
theorem dX9_isThere_23 : decode cX9_isThere 23 = .ok (.iconst 1, 1) := by decide +kernel
theorem dX9_isThere_24 : decode cX9_isThere 24 = .ok (.goto 4, 3) := by decide +kernel
theorem dX9_isThere_27 : decode cX9_isThere 27 = .ok (.iconst 0, 1) := by decide +kernel
theorem dX9_isThere_28 : decode cX9_isThere 28 = .ok (.ireturn, 1) := by decide +kernel
theorem dX9_dancer_0 : decode cX9_dancer 0 = .ok (.aload_n 0, 1) := by decide +kernel
theorem dX9_dancer_1 : decode cX9_dancer 1 = .ok (.iconst 0, 1) := by decide +kernel
theorem dX9_dancer_2 : decode cX9_dancer 2 = .ok (.putfield 54, 3) := by decide +kernel
theorem dX9_dancer_5 : decode cX9_dancer 5 = .ok (.aload_n 0, 1) := by decide +kernel
theorem dX9_dancer_6 : decode cX9_dancer 6 = .ok (.iload_n 1, 1) := by decide +kernel
theorem dX9_dancer_7 : decode cX9_dancer 7 = .ok (.invokevirtual 511, 3) := by decide +kernel
theorem dX9_dancer_10 : decode cX9_dancer 10 = .ok (.ifCond .eq 13, 3) := by decide +kernel
theorem dX9_dancer_13 : decode cX9_dancer 13 = .ok (.iload_n 2, 1) := by decide +kernel
theorem dX9_dancer_14 : decode cX9_dancer 14 = .ok (.iconst 0, 1) := by decide +kernel
theorem dX9_dancer_15 : decode cX9_dancer 15 = .ok (.bipush 6, 2) := by decide +kernel
theorem dX9_dancer_17 : decode cX9_dancer 17 = .ok (.invokestatic 135, 3) := by decide +kernel
theorem dX9_dancer_20 : decode cX9_dancer 20 = .ok (.ifCond .ne 9, 3) := by decide +kernel
theorem dX9_dancer_23 : decode cX9_dancer 23 = .ok (.aload_n 0, 1) := by decide +kernel
theorem dX9_dancer_24 : decode cX9_dancer 24 = .ok (.iconst 1, 1) := by decide +kernel
theorem dX9_dancer_25 : decode cX9_dancer 25 = .ok (.invokevirtual 60, 3) := by decide +kernel
theorem dX9_dancer_28 : decode cX9_dancer 28 = .ok (.ireturn, 1) := by decide +kernel
theorem dX9_dancer_29 : decode cX9_dancer 29 = .ok (.iload_n 2, 1) := by decide +kernel
theorem dX9_dancer_30 : decode cX9_dancer 30 = .ok (.tableswitch 133 0 5 #[38, 53, 66, 88, 103, 118], 38) := by decide +kernel
theorem dX9_dancer_68 : decode cX9_dancer 68 = .ok (.aload_n 0, 1) := by decide +kernel
theorem dX9_dancer_69 : decode cX9_dancer 69 = .ok (.aload_n 0, 1) := by decide +kernel
theorem dX9_dancer_70 : decode cX9_dancer 70 = .ok (.getfield 21, 3) := by decide +kernel
theorem dX9_dancer_73 : decode cX9_dancer 73 = .ok (.sipush 204, 3) := by decide +kernel
theorem dX9_dancer_76 : decode cX9_dancer 76 = .ok (.iload_n 1, 1) := by decide +kernel
theorem dX9_dancer_77 : decode cX9_dancer 77 = .ok (.iadd, 1) := by decide +kernel
theorem dX9_dancer_78 : decode cX9_dancer 78 = .ok (.iaload, 1) := by decide +kernel
theorem dX9_dancer_79 : decode cX9_dancer 79 = .ok (.invokevirtual 64, 3) := by decide +kernel
theorem dX9_dancer_82 : decode cX9_dancer 82 = .ok (.ireturn, 1) := by decide +kernel
theorem dX9_dancer_83 : decode cX9_dancer 83 = .ok (.aload_n 0, 1) := by decide +kernel
theorem dX9_dancer_84 : decode cX9_dancer 84 = .ok (.aload_n 0, 1) := by decide +kernel
theorem dX9_dancer_85 : decode cX9_dancer 85 = .ok (.getfield 21, 3) := by decide +kernel
theorem dX9_dancer_88 : decode cX9_dancer 88 = .ok (.iload_n 1, 1) := by decide +kernel
theorem dX9_dancer_89 : decode cX9_dancer 89 = .ok (.invokestatic 409, 3) := by decide +kernel
theorem dX9_dancer_92 : decode cX9_dancer 92 = .ok (.invokevirtual 64, 3) := by decide +kernel
theorem dX9_dancer_95 : decode cX9_dancer 95 = .ok (.ireturn, 1) := by decide +kernel
theorem dX9_dancer_96 : decode cX9_dancer 96 = .ok (.aload_n 0, 1) := by decide +kernel
theorem dX9_dancer_97 : decode cX9_dancer 97 = .ok (.iload_n 1, 1) := by decide +kernel
theorem dX9_dancer_98 : decode cX9_dancer 98 = .ok (.ifCond .ne 8, 3) := by decide +kernel
theorem dX9_dancer_101 : decode cX9_dancer 101 = .ok (.bipush (-2), 2) := by decide +kernel
theorem dX9_dancer_103 : decode cX9_dancer 103 = .ok (.goto 11, 3) := by decide +kernel
theorem dX9_dancer_106 : decode cX9_dancer 106 = .ok (.aload_n 0, 1) := by decide +kernel
theorem dX9_dancer_107 : decode cX9_dancer 107 = .ok (.getfield 21, 3) := by decide +kernel
theorem dX9_dancer_110 : decode cX9_dancer 110 = .ok (.iload_n 1, 1) := by decide +kernel
theorem dX9_dancer_111 : decode cX9_dancer 111 = .ok (.invokestatic 458, 3) := by decide +kernel
theorem dX9_dancer_114 : decode cX9_dancer 114 = .ok (.invokevirtual 64, 3) := by decide +kernel
theorem dX9_dancer_117 : decode cX9_dancer 117 = .ok (.ireturn, 1) := by decide +kernel
theorem dX9_dancer_118 : decode cX9_dancer 118 = .ok (.aload_n 0, 1) := by decide +kernel
theorem dX9_dancer_119 : decode cX9_dancer 119 = .ok (.aload_n 0, 1) := by decide +kernel
theorem dX9_dancer_120 : decode cX9_dancer 120 = .ok (.getfield 21, 3) := by decide +kernel
theorem dX9_dancer_123 : decode cX9_dancer 123 = .ok (.sipush 220, 3) := by decide +kernel
theorem dX9_dancer_126 : decode cX9_dancer 126 = .ok (.iload_n 1, 1) := by decide +kernel
theorem dX9_dancer_127 : decode cX9_dancer 127 = .ok (.iadd, 1) := by decide +kernel
theorem dX9_dancer_128 : decode cX9_dancer 128 = .ok (.iaload, 1) := by decide +kernel
theorem dX9_dancer_129 : decode cX9_dancer 129 = .ok (.invokevirtual 64, 3) := by decide +kernel
theorem dX9_dancer_132 : decode cX9_dancer 132 = .ok (.ireturn, 1) := by decide +kernel
theorem dX9_dancer_133 : decode cX9_dancer 133 = .ok (.aload_n 0, 1) := by decide +kernel
theorem dX9_dancer_134 : decode cX9_dancer 134 = .ok (.aload_n 0, 1) := by decide +kernel
theorem dX9_dancer_135 : decode cX9_dancer 135 = .ok (.getfield 21, 3) := by decide +kernel
theorem dX9_dancer_138 : decode cX9_dancer 138 = .ok (.sipush 236, 3) := by decide +kernel
theorem dX9_dancer_141 : decode cX9_dancer 141 = .ok (.iload_n 1, 1) := by decide +kernel
theorem dX9_dancer_142 : decode cX9_dancer 142 = .ok (.iadd, 1) := by decide +kernel
theorem dX9_dancer_143 : decode cX9_dancer 143 = .ok (.iaload, 1) := by decide +kernel
theorem dX9_dancer_144 : decode cX9_dancer 144 = .ok (.invokevirtual 64, 3) := by decide +kernel
theorem dX9_dancer_147 : decode cX9_dancer 147 = .ok (.ireturn, 1) := by decide +kernel
theorem dX9_dancer_148 : decode cX9_dancer 148 = .ok (.aload_n 0, 1) := by decide +kernel
theorem dX9_dancer_149 : decode cX9_dancer 149 = .ok (.aload_n 0, 1) := by decide +kernel
theorem dX9_dancer_150 : decode cX9_dancer 150 = .ok (.getfield 21, 3) := by decide +kernel
theorem dX9_dancer_153 : decode cX9_dancer 153 = .ok (.sipush 252, 3) := by decide +kernel
theorem dX9_dancer_156 : decode cX9_dancer 156 = .ok (.iload_n 1, 1) := by decide +kernel
theorem dX9_dancer_157 : decode cX9_dancer 157 = .ok (.iadd, 1) := by decide +kernel
theorem dX9_dancer_158 : decode cX9_dancer 158 = .ok (.iaload, 1) := by decide +kernel
theorem dX9_dancer_159 : decode cX9_dancer 159 = .ok (.invokevirtual 64, 3) := by decide +kernel
theorem dX9_dancer_162 : decode cX9_dancer 162 = .ok (.ireturn, 1) := by decide +kernel
theorem dX9_dancer_163 : decode cX9_dancer 163 = .ok (.aload_n 0, 1) := by decide +kernel
theorem dX9_dancer_164 : decode cX9_dancer 164 = .ok (.aload_n 0, 1) := by decide +kernel
theorem dX9_dancer_165 : decode cX9_dancer 165 = .ok (.getfield 21, 3) := by decide +kernel
theorem dX9_dancer_168 : decode cX9_dancer 168 = .ok (.sipush 268, 3) := by decide +kernel
theorem dX9_dancer_171 : decode cX9_dancer 171 = .ok (.iload_n 1, 1) := by decide +kernel
theorem dX9_dancer_172 : decode cX9_dancer 172 = .ok (.iadd, 1) := by decide +kernel
theorem dX9_dancer_173 : decode cX9_dancer 173 = .ok (.iaload, 1) := by decide +kernel
theorem dX9_dancer_174 : decode cX9_dancer 174 = .ok (.invokevirtual 64, 3) := by decide +kernel
theorem dX9_dancer_177 : decode cX9_dancer 177 = .ok (.ireturn, 1) := by decide +kernel
theorem dX9_stands_0 : decode cX9_stands 0 = .ok (.aload_n 0, 1) := by decide +kernel
theorem dX9_stands_1 : decode cX9_stands 1 = .ok (.iconst 0, 1) := by decide +kernel
theorem dX9_stands_2 : decode cX9_stands 2 = .ok (.putfield 54, 3) := by decide +kernel
theorem dX9_stands_5 : decode cX9_stands 5 = .ok (.aload_n 0, 1) := by decide +kernel
theorem dX9_stands_6 : decode cX9_stands 6 = .ok (.iload_n 1, 1) := by decide +kernel
theorem dX9_stands_7 : decode cX9_stands 7 = .ok (.iload_n 2, 1) := by decide +kernel
theorem dX9_stands_8 : decode cX9_stands 8 = .ok (.invokevirtual 508, 3) := by decide +kernel
theorem dX9_stands_11 : decode cX9_stands 11 = .ok (.ifCond .ne 9, 3) := by decide +kernel
theorem dX9_stands_14 : decode cX9_stands 14 = .ok (.aload_n 0, 1) := by decide +kernel
theorem dX9_stands_15 : decode cX9_stands 15 = .ok (.iconst 1, 1) := by decide +kernel
theorem dX9_stands_16 : decode cX9_stands 16 = .ok (.invokevirtual 60, 3) := by decide +kernel
theorem dX9_stands_19 : decode cX9_stands 19 = .ok (.ireturn, 1) := by decide +kernel
theorem dX9_stands_20 : decode cX9_stands 20 = .ok (.iconst 0, 1) := by decide +kernel
theorem dX9_stands_21 : decode cX9_stands 21 = .ok (.istore_n 3, 1) := by decide +kernel
theorem dX9_stands_22 : decode cX9_stands 22 = .ok (.iload_n 3, 1) := by decide +kernel
theorem dX9_stands_23 : decode cX9_stands 23 = .ok (.aload_n 0, 1) := by decide +kernel
theorem dX9_stands_24 : decode cX9_stands 24 = .ok (.getfield 21, 3) := by decide +kernel
theorem dX9_stands_27 : decode cX9_stands 27 = .ok (.sipush 289, 3) := by decide +kernel
theorem dX9_stands_30 : decode cX9_stands 30 = .ok (.iaload, 1) := by decide +kernel
theorem dX9_stands_31 : decode cX9_stands 31 = .ok (.if_icmp .ge 46, 3) := by decide +kernel
theorem dX9_stands_34 : decode cX9_stands 34 = .ok (.aload_n 0, 1) := by decide +kernel
theorem dX9_stands_35 : decode cX9_stands 35 = .ok (.getfield 21, 3) := by decide +kernel
theorem dX9_stands_38 : decode cX9_stands 38 = .ok (.iload_n 3, 1) := by decide +kernel
theorem dX9_stands_39 : decode cX9_stands 39 = .ok (.invokestatic 409, 3) := by decide +kernel
theorem dX9_stands_42 : decode cX9_stands 42 = .ok (.aload_n 0, 1) := by decide +kernel
theorem dX9_stands_43 : decode cX9_stands 43 = .ok (.getfield 389, 3) := by decide +kernel
theorem dX9_stands_46 : decode cX9_stands 46 = .ok (.getfield 154, 3) := by decide +kernel
theorem dX9_stands_49 : decode cX9_stands 49 = .ok (.iload_n 2, 1) := by decide +kernel
theorem dX9_stands_50 : decode cX9_stands 50 = .ok (.imul, 1) := by decide +kernel
theorem dX9_stands_51 : decode cX9_stands 51 = .ok (.iload_n 1, 1) := by decide +kernel
theorem dX9_stands_52 : decode cX9_stands 52 = .ok (.iadd, 1) := by decide +kernel
theorem dX9_stands_53 : decode cX9_stands 53 = .ok (.if_icmp .ne 18, 3) := by decide +kernel
theorem dX9_stands_56 : decode cX9_stands 56 = .ok (.aload_n 0, 1) := by decide +kernel
theorem dX9_stands_57 : decode cX9_stands 57 = .ok (.aload_n 0, 1) := by decide +kernel
theorem dX9_stands_58 : decode cX9_stands 58 = .ok (.getfield 21, 3) := by decide +kernel
theorem dX9_stands_61 : decode cX9_stands 61 = .ok (.sipush 204, 3) := by decide +kernel
theorem dX9_stands_64 : decode cX9_stands 64 = .ok (.iload_n 3, 1) := by decide +kernel
theorem dX9_stands_65 : decode cX9_stands 65 = .ok (.iadd, 1) := by decide +kernel
theorem dX9_stands_66 : decode cX9_stands 66 = .ok (.iaload, 1) := by decide +kernel
theorem dX9_stands_67 : decode cX9_stands 67 = .ok (.invokevirtual 64, 3) := by decide +kernel
theorem dX9_stands_70 : decode cX9_stands 70 = .ok (.ireturn, 1) := by decide +kernel
theorem dX9_stands_71 : decode cX9_stands 71 = .ok (.iinc 3 1, 3) := by decide +kernel
theorem dX9_stands_74 : decode cX9_stands 74 = .ok (.goto (-52), 3) := by decide +kernel
theorem dX9_stands_77 : decode cX9_stands 77 = .ok (.aload_n 0, 1) := by decide +kernel
theorem dX9_stands_78 : decode cX9_stands 78 = .ok (.bipush (-2), 2) := by decide +kernel
theorem dX9_stands_80 : decode cX9_stands 80 = .ok (.invokevirtual 64, 3) := by decide +kernel
theorem dX9_stands_83 : decode cX9_stands 83 = .ok (.ireturn, 1) := by decide +kernel
theorem dX9_way_0 : decode cX9_way 0 = .ok (.aload_n 0, 1) := by decide +kernel
theorem dX9_way_1 : decode cX9_way 1 = .ok (.iconst 0, 1) := by decide +kernel
theorem dX9_way_2 : decode cX9_way 2 = .ok (.putfield 54, 3) := by decide +kernel
theorem dX9_way_5 : decode cX9_way 5 = .ok (.aload_n 0, 1) := by decide +kernel
theorem dX9_way_6 : decode cX9_way 6 = .ok (.getfield 389, 3) := by decide +kernel
theorem dX9_way_9 : decode cX9_way 9 = .ok (.ifnull 34, 3) := by decide +kernel
theorem dX9_way_12 : decode cX9_way 12 = .ok (.iload_n 1, 1) := by decide +kernel
theorem dX9_way_13 : decode cX9_way 13 = .ok (.ifCond .lt 30, 3) := by decide +kernel
theorem dX9_way_16 : decode cX9_way 16 = .ok (.iload_n 1, 1) := by decide +kernel
theorem dX9_way_17 : decode cX9_way 17 = .ok (.aload_n 0, 1) := by decide +kernel
theorem dX9_way_18 : decode cX9_way 18 = .ok (.getfield 21, 3) := by decide +kernel
theorem dX9_way_21 : decode cX9_way 21 = .ok (.sipush 288, 3) := by decide +kernel
theorem dX9_way_24 : decode cX9_way 24 = .ok (.iaload, 1) := by decide +kernel
theorem dX9_way_25 : decode cX9_way 25 = .ok (.if_icmp .ge 18, 3) := by decide +kernel
theorem dX9_way_28 : decode cX9_way 28 = .ok (.aload_n 0, 1) := by decide +kernel
theorem dX9_way_29 : decode cX9_way 29 = .ok (.aload_n 0, 1) := by decide +kernel
theorem dX9_way_30 : decode cX9_way 30 = .ok (.getfield 21, 3) := by decide +kernel
theorem dX9_way_33 : decode cX9_way 33 = .ok (.iconst 0, 1) := by decide +kernel
theorem dX9_way_34 : decode cX9_way 34 = .ok (.iload_n 1, 1) := by decide +kernel
theorem dX9_way_35 : decode cX9_way 35 = .ok (.iadd, 1) := by decide +kernel
theorem dX9_way_36 : decode cX9_way 36 = .ok (.iaload, 1) := by decide +kernel
theorem dX9_way_37 : decode cX9_way 37 = .ok (.invokevirtual 64, 3) := by decide +kernel
theorem dX9_way_40 : decode cX9_way 40 = .ok (.goto 8, 3) := by decide +kernel
theorem dX9_way_43 : decode cX9_way 43 = .ok (.aload_n 0, 1) := by decide +kernel
theorem dX9_way_44 : decode cX9_way 44 = .ok (.iconst 1, 1) := by decide +kernel
theorem dX9_way_45 : decode cX9_way 45 = .ok (.invokevirtual 60, 3) := by decide +kernel
theorem dX9_way_48 : decode cX9_way 48 = .ok (.ireturn, 1) := by decide +kernel
theorem dX9_length_0 : decode cX9_length 0 = .ok (.aload_n 0, 1) := by decide +kernel
theorem dX9_length_1 : decode cX9_length 1 = .ok (.iconst 0, 1) := by decide +kernel
theorem dX9_length_2 : decode cX9_length 2 = .ok (.putfield 54, 3) := by decide +kernel
theorem dX9_length_5 : decode cX9_length 5 = .ok (.aload_n 0, 1) := by decide +kernel
theorem dX9_length_6 : decode cX9_length 6 = .ok (.getfield 389, 3) := by decide +kernel
theorem dX9_length_9 : decode cX9_length 9 = .ok (.ifnonnull 11, 3) := by decide +kernel
theorem dX9_length_12 : decode cX9_length 12 = .ok (.aload_n 0, 1) := by decide +kernel
theorem dX9_length_13 : decode cX9_length 13 = .ok (.iconst 1, 1) := by decide +kernel
theorem dX9_length_14 : decode cX9_length 14 = .ok (.invokevirtual 60, 3) := by decide +kernel
theorem dX9_length_17 : decode cX9_length 17 = .ok (.goto 15, 3) := by decide +kernel
theorem dX9_length_20 : decode cX9_length 20 = .ok (.aload_n 0, 1) := by decide +kernel
theorem dX9_length_21 : decode cX9_length 21 = .ok (.aload_n 0, 1) := by decide +kernel
theorem dX9_length_22 : decode cX9_length 22 = .ok (.getfield 21, 3) := by decide +kernel
theorem dX9_length_25 : decode cX9_length 25 = .ok (.sipush 288, 3) := by decide +kernel
theorem dX9_length_28 : decode cX9_length 28 = .ok (.iaload, 1) := by decide +kernel
theorem dX9_length_29 : decode cX9_length 29 = .ok (.invokevirtual 64, 3) := by decide +kernel
theorem dX9_length_32 : decode cX9_length 32 = .ok (.ireturn, 1) := by decide +kernel
theorem dX9_corners_0 : decode cX9_corners 0 = .ok (.aload_n 0, 1) := by decide +kernel
theorem dX9_corners_1 : decode cX9_corners 1 = .ok (.iconst 0, 1) := by decide +kernel
theorem dX9_corners_2 : decode cX9_corners 2 = .ok (.putfield 54, 3) := by decide +kernel
theorem dX9_corners_5 : decode cX9_corners 5 = .ok (.aload_n 0, 1) := by decide +kernel
theorem dX9_corners_6 : decode cX9_corners 6 = .ok (.getfield 389, 3) := by decide +kernel
theorem dX9_corners_9 : decode cX9_corners 9 = .ok (.ifnonnull 9, 3) := by decide +kernel
theorem dX9_corners_12 : decode cX9_corners 12 = .ok (.aload_n 0, 1) := by decide +kernel
theorem dX9_corners_13 : decode cX9_corners 13 = .ok (.iconst 1, 1) := by decide +kernel
theorem dX9_corners_14 : decode cX9_corners 14 = .ok (.invokevirtual 60, 3) := by decide +kernel
theorem dX9_corners_17 : decode cX9_corners 17 = .ok (.ireturn, 1) := by decide +kernel
theorem dX9_corners_18 : decode cX9_corners 18 = .ok (.iconst 0, 1) := by decide +kernel
theorem dX9_corners_19 : decode cX9_corners 19 = .ok (.istore_n 1, 1) := by decide +kernel
theorem dX9_corners_20 : decode cX9_corners 20 = .ok (.aload_n 0, 1) := by decide +kernel
theorem dX9_corners_21 : decode cX9_corners 21 = .ok (.getfield 21, 3) := by decide +kernel
theorem dX9_corners_24 : decode cX9_corners 24 = .ok (.sipush 220, 3) := by decide +kernel
theorem dX9_corners_27 : decode cX9_corners 27 = .ok (.aload_n 0, 1) := by decide +kernel
theorem dX9_corners_28 : decode cX9_corners 28 = .ok (.getfield 21, 3) := by decide +kernel
theorem dX9_corners_31 : decode cX9_corners 31 = .ok (.sipush 289, 3) := by decide +kernel
theorem dX9_corners_34 : decode cX9_corners 34 = .ok (.iaload, 1) := by decide +kernel
theorem dX9_corners_35 : decode cX9_corners 35 = .ok (.iadd, 1) := by decide +kernel
theorem dX9_corners_36 : decode cX9_corners 36 = .ok (.iconst 1, 1) := by decide +kernel
theorem dX9_corners_37 : decode cX9_corners 37 = .ok (.isub, 1) := by decide +kernel
theorem dX9_corners_38 : decode cX9_corners 38 = .ok (.iaload, 1) := by decide +kernel
theorem dX9_corners_39 : decode cX9_corners 39 = .ok (.iconst 1, 1) := by decide +kernel
theorem dX9_corners_40 : decode cX9_corners 40 = .ok (.iadd, 1) := by decide +kernel
theorem dX9_corners_41 : decode cX9_corners 41 = .ok (.istore_n 2, 1) := by decide +kernel
theorem dX9_corners_42 : decode cX9_corners 42 = .ok (.iload_n 2, 1) := by decide +kernel
theorem dX9_corners_43 : decode cX9_corners 43 = .ok (.aload_n 0, 1) := by decide +kernel
theorem dX9_corners_44 : decode cX9_corners 44 = .ok (.getfield 21, 3) := by decide +kernel
theorem dX9_corners_47 : decode cX9_corners 47 = .ok (.sipush 220, 3) := by decide +kernel
theorem dX9_corners_50 : decode cX9_corners 50 = .ok (.iaload, 1) := by decide +kernel
theorem dX9_corners_51 : decode cX9_corners 51 = .ok (.if_icmp .ge 29, 3) := by decide +kernel
theorem dX9_corners_54 : decode cX9_corners 54 = .ok (.iload_n 1, 1) := by decide +kernel
theorem dX9_corners_55 : decode cX9_corners 55 = .ok (.aload_n 0, 1) := by decide +kernel
theorem dX9_corners_56 : decode cX9_corners 56 = .ok (.aload_n 0, 1) := by decide +kernel
theorem dX9_corners_57 : decode cX9_corners 57 = .ok (.getfield 21, 3) := by decide +kernel
theorem dX9_corners_60 : decode cX9_corners 60 = .ok (.iload_n 2, 1) := by decide +kernel
theorem dX9_corners_61 : decode cX9_corners 61 = .ok (.invokevirtual 451, 3) := by decide +kernel
theorem dX9_corners_64 : decode cX9_corners 64 = .ok (.ifCond .eq 7, 3) := by decide +kernel
theorem dX9_corners_67 : decode cX9_corners 67 = .ok (.iconst 1, 1) := by decide +kernel
theorem dX9_corners_68 : decode cX9_corners 68 = .ok (.goto 4, 3) := by decide +kernel
theorem dX9_corners_71 : decode cX9_corners 71 = .ok (.iconst 0, 1) := by decide +kernel
theorem dX9_corners_72 : decode cX9_corners 72 = .ok (.iadd, 1) := by decide +kernel
theorem dX9_corners_73 : decode cX9_corners 73 = .ok (.istore_n 1, 1) := by decide +kernel
theorem dX9_corners_74 : decode cX9_corners 74 = .ok (.iinc 2 1, 3) := by decide +kernel
theorem dX9_corners_77 : decode cX9_corners 77 = .ok (.goto (-35), 3) := by decide +kernel
theorem dX9_corners_80 : decode cX9_corners 80 = .ok (.aload_n 0, 1) := by decide +kernel
theorem dX9_corners_81 : decode cX9_corners 81 = .ok (.iload_n 1, 1) := by decide +kernel
theorem dX9_corners_82 : decode cX9_corners 82 = .ok (.invokevirtual 64, 3) := by decide +kernel
theorem dX9_corners_85 : decode cX9_corners 85 = .ok (.ireturn, 1) := by decide +kernel
theorem dX9_isTable_0 : decode cX9_isTable 0 = .ok (.aload_n 0, 1) := by decide +kernel
theorem dX9_isTable_1 : decode cX9_isTable 1 = .ok (.getfield 389, 3) := by decide +kernel
theorem dX9_isTable_4 : decode cX9_isTable 4 = .ok (.ifnull 22, 3) := by decide +kernel
theorem dX9_isTable_7 : decode cX9_isTable 7 = .ok (.iload_n 1, 1) := by decide +kernel
theorem dX9_isTable_8 : decode cX9_isTable 8 = .ok (.ifCond .lt 18, 3) := by decide +kernel
theorem dX9_isTable_11 : decode cX9_isTable 11 = .ok (.iload_n 1, 1) := by decide +kernel
theorem dX9_isTable_12 : decode cX9_isTable 12 = .ok (.aload_n 0, 1) := by decide +kernel
theorem dX9_isTable_13 : decode cX9_isTable 13 = .ok (.getfield 389, 3) := by decide +kernel
theorem dX9_isTable_16 : decode cX9_isTable 16 = .ok (.getfield 311, 3) := by decide +kernel
theorem dX9_isTable_19 : decode cX9_isTable 19 = .ok (.if_icmp .ge 7, 3) := by decide +kernel
theorem dX9_isTable_22 : decode cX9_isTable 22 = .ok (.iconst 1, 1) := by decide +kernel
theorem dX9_isTable_23 : decode cX9_isTable 23 = .ok (.goto 4, 3) := by decide +kernel
theorem dX9_isTable_26 : decode cX9_isTable 26 = .ok (.iconst 0, 1) := by decide +kernel
theorem dX9_isTable_27 : decode cX9_isTable 27 = .ok (.ireturn, 1) := by decide +kernel
theorem dX9_sits_0 : decode cX9_sits 0 = .ok (.aload_n 0, 1) := by decide +kernel
theorem dX9_sits_1 : decode cX9_sits 1 = .ok (.iconst 0, 1) := by decide +kernel
theorem dX9_sits_2 : decode cX9_sits 2 = .ok (.putfield 54, 3) := by decide +kernel
theorem dX9_sits_5 : decode cX9_sits 5 = .ok (.aload_n 0, 1) := by decide +kernel
theorem dX9_sits_6 : decode cX9_sits 6 = .ok (.iload_n 1, 1) := by decide +kernel
theorem dX9_sits_7 : decode cX9_sits 7 = .ok (.invokevirtual 514, 3) := by decide +kernel
theorem dX9_sits_10 : decode cX9_sits 10 = .ok (.ifCond .eq 20, 3) := by decide +kernel
theorem dX9_sits_13 : decode cX9_sits 13 = .ok (.aload_n 0, 1) := by decide +kernel
theorem dX9_sits_14 : decode cX9_sits 14 = .ok (.aload_n 0, 1) := by decide +kernel
theorem dX9_sits_15 : decode cX9_sits 15 = .ok (.getfield 21, 3) := by decide +kernel
theorem dX9_sits_18 : decode cX9_sits 18 = .ok (.sipush 284, 3) := by decide +kernel
theorem dX9_sits_21 : decode cX9_sits 21 = .ok (.iload_n 1, 1) := by decide +kernel
theorem dX9_sits_22 : decode cX9_sits 22 = .ok (.iadd, 1) := by decide +kernel
theorem dX9_sits_23 : decode cX9_sits 23 = .ok (.iaload, 1) := by decide +kernel
theorem dX9_sits_24 : decode cX9_sits 24 = .ok (.invokevirtual 64, 3) := by decide +kernel
theorem dX9_sits_27 : decode cX9_sits 27 = .ok (.goto 8, 3) := by decide +kernel
theorem dX9_sits_30 : decode cX9_sits 30 = .ok (.aload_n 0, 1) := by decide +kernel
theorem dX9_sits_31 : decode cX9_sits 31 = .ok (.iconst 1, 1) := by decide +kernel
theorem dX9_sits_32 : decode cX9_sits 32 = .ok (.invokevirtual 60, 3) := by decide +kernel
theorem dX9_sits_35 : decode cX9_sits 35 = .ok (.ireturn, 1) := by decide +kernel
theorem dX9_over_0 : decode cX9_over 0 = .ok (.aload_n 0, 1) := by decide +kernel
theorem dX9_over_1 : decode cX9_over 1 = .ok (.iconst 0, 1) := by decide +kernel
theorem dX9_over_2 : decode cX9_over 2 = .ok (.putfield 54, 3) := by decide +kernel
theorem dX9_over_5 : decode cX9_over 5 = .ok (.aload_n 0, 1) := by decide +kernel
theorem dX9_over_6 : decode cX9_over 6 = .ok (.getfield 389, 3) := by decide +kernel
theorem dX9_over_9 : decode cX9_over 9 = .ok (.ifnonnull 11, 3) := by decide +kernel
theorem dX9_over_12 : decode cX9_over 12 = .ok (.aload_n 0, 1) := by decide +kernel
theorem dX9_over_13 : decode cX9_over 13 = .ok (.iconst 1, 1) := by decide +kernel
theorem dX9_over_14 : decode cX9_over 14 = .ok (.invokevirtual 60, 3) := by decide +kernel
theorem dX9_over_17 : decode cX9_over 17 = .ok (.goto 14, 3) := by decide +kernel
theorem dX9_over_20 : decode cX9_over 20 = .ok (.aload_n 0, 1) := by decide +kernel
theorem dX9_over_21 : decode cX9_over 21 = .ok (.aload_n 0, 1) := by decide +kernel
theorem dX9_over_22 : decode cX9_over 22 = .ok (.getfield 21, 3) := by decide +kernel
theorem dX9_over_25 : decode cX9_over 25 = .ok (.invokestatic 477, 3) := by decide +kernel
theorem dX9_over_28 : decode cX9_over 28 = .ok (.invokevirtual 64, 3) := by decide +kernel
theorem dX9_over_31 : decode cX9_over 31 = .ok (.ireturn, 1) := by decide +kernel
theorem dX9_refusesIn_0 : decode cX9_refusesIn 0 = .ok (.aload_n 0, 1) := by decide +kernel
theorem dX9_refusesIn_1 : decode cX9_refusesIn 1 = .ok (.getfield 389, 3) := by decide +kernel
theorem dX9_refusesIn_4 : decode cX9_refusesIn 4 = .ok (.ifnonnull 7, 3) := by decide +kernel
theorem dX9_refusesIn_7 : decode cX9_refusesIn 7 = .ok (.iconst 1, 1) := by decide +kernel
theorem dX9_refusesIn_8 : decode cX9_refusesIn 8 = .ok (.goto 18, 3) := by decide +kernel
theorem dX9_refusesIn_11 : decode cX9_refusesIn 11 = .ok (.iload_n 1, 1) := by decide +kernel
theorem dX9_refusesIn_12 : decode cX9_refusesIn 12 = .ok (.iconst 0, 1) := by decide +kernel
theorem dX9_refusesIn_13 : decode cX9_refusesIn 13 = .ok (.bipush 40, 2) := by decide +kernel
theorem dX9_refusesIn_15 : decode cX9_refusesIn 15 = .ok (.invokestatic 135, 3) := by decide +kernel
theorem dX9_refusesIn_18 : decode cX9_refusesIn 18 = .ok (.ifCond .eq 7, 3) := by decide +kernel
theorem dX9_refusesIn_21 : decode cX9_refusesIn 21 = .ok (.iconst 0, 1) := by decide +kernel
theorem dX9_refusesIn_22 : decode cX9_refusesIn 22 = .ok (.goto 4, 3) := by decide +kernel
theorem dX9_refusesIn_25 : decode cX9_refusesIn 25 = .ok (.iconst 2, 1) := by decide +kernel
theorem dX9_refusesIn_26 : decode cX9_refusesIn 26 = .ok (.ireturn, 1) := by decide +kernel
theorem dX9_manyIn_0 : decode cX9_manyIn 0 = .ok (.aload_n 0, 1) := by decide +kernel
theorem dX9_manyIn_1 : decode cX9_manyIn 1 = .ok (.iconst 0, 1) := by decide +kernel
theorem dX9_manyIn_2 : decode cX9_manyIn 2 = .ok (.putfield 54, 3) := by decide +kernel
theorem dX9_manyIn_5 : decode cX9_manyIn 5 = .ok (.aload_n 0, 1) := by decide +kernel
theorem dX9_manyIn_6 : decode cX9_manyIn 6 = .ok (.iload_n 1, 1) := by decide +kernel
theorem dX9_manyIn_7 : decode cX9_manyIn 7 = .ok (.invokevirtual 517, 3) := by decide +kernel
theorem dX9_manyIn_10 : decode cX9_manyIn 10 = .ok (.istore_n 2, 1) := by decide +kernel
theorem dX9_manyIn_11 : decode cX9_manyIn 11 = .ok (.iload_n 2, 1) := by decide +kernel
theorem dX9_manyIn_12 : decode cX9_manyIn 12 = .ok (.ifCond .le 9, 3) := by decide +kernel
theorem dX9_manyIn_15 : decode cX9_manyIn 15 = .ok (.aload_n 0, 1) := by decide +kernel
theorem dX9_manyIn_16 : decode cX9_manyIn 16 = .ok (.iload_n 2, 1) := by decide +kernel
theorem dX9_manyIn_17 : decode cX9_manyIn 17 = .ok (.invokevirtual 60, 3) := by decide +kernel
theorem dX9_manyIn_20 : decode cX9_manyIn 20 = .ok (.ireturn, 1) := by decide +kernel
theorem dX9_manyIn_21 : decode cX9_manyIn 21 = .ok (.aload_n 0, 1) := by decide +kernel
theorem dX9_manyIn_22 : decode cX9_manyIn 22 = .ok (.iload_n 1, 1) := by decide +kernel
theorem dX9_manyIn_23 : decode cX9_manyIn 23 = .ok (.invokevirtual 520, 3) := by decide +kernel
theorem dX9_manyIn_26 : decode cX9_manyIn 26 = .ok (.aload_n 0, 1) := by decide +kernel
theorem dX9_manyIn_27 : decode cX9_manyIn 27 = .ok (.aload_n 0, 1) := by decide +kernel
theorem dX9_manyIn_28 : decode cX9_manyIn 28 = .ok (.getfield 24, 3) := by decide +kernel
theorem dX9_manyIn_31 : decode cX9_manyIn 31 = .ok (.sipush 289, 3) := by decide +kernel
theorem dX9_manyIn_34 : decode cX9_manyIn 34 = .ok (.iaload, 1) := by decide +kernel
theorem dX9_manyIn_35 : decode cX9_manyIn 35 = .ok (.invokevirtual 64, 3) := by decide +kernel
theorem dX9_manyIn_38 : decode cX9_manyIn 38 = .ok (.ireturn, 1) := by decide +kernel
theorem dX9_at_0 : decode cX9_at 0 = .ok (.aload_n 0, 1) := by decide +kernel
theorem dX9_at_1 : decode cX9_at 1 = .ok (.iconst 0, 1) := by decide +kernel
theorem dX9_at_2 : decode cX9_at 2 = .ok (.putfield 54, 3) := by decide +kernel
theorem dX9_at_5 : decode cX9_at 5 = .ok (.iload_n 1, 1) := by decide +kernel
theorem dX9_at_6 : decode cX9_at 6 = .ok (.ifCond .ge 7, 3) := by decide +kernel
theorem dX9_at_9 : decode cX9_at 9 = .ok (.iconst 1, 1) := by decide +kernel
theorem dX9_at_10 : decode cX9_at 10 = .ok (.goto 8, 3) := by decide +kernel
theorem dX9_at_13 : decode cX9_at 13 = .ok (.aload_n 0, 1) := by decide +kernel
theorem dX9_at_14 : decode cX9_at 14 = .ok (.iload_n 2, 1) := by decide +kernel
theorem dX9_at_15 : decode cX9_at 15 = .ok (.invokevirtual 517, 3) := by decide +kernel
theorem dX9_at_18 : decode cX9_at 18 = .ok (.istore_n 3, 1) := by decide +kernel
theorem dX9_at_19 : decode cX9_at 19 = .ok (.iload_n 3, 1) := by decide +kernel
theorem dX9_at_20 : decode cX9_at 20 = .ok (.ifCond .le 9, 3) := by decide +kernel
theorem dX9_at_23 : decode cX9_at 23 = .ok (.aload_n 0, 1) := by decide +kernel
theorem dX9_at_24 : decode cX9_at 24 = .ok (.iload_n 3, 1) := by decide +kernel
theorem dX9_at_25 : decode cX9_at 25 = .ok (.invokevirtual 60, 3) := by decide +kernel
theorem dX9_at_28 : decode cX9_at 28 = .ok (.ireturn, 1) := by decide +kernel
theorem dX9_at_29 : decode cX9_at 29 = .ok (.aload_n 0, 1) := by decide +kernel
theorem dX9_at_30 : decode cX9_at 30 = .ok (.iload_n 2, 1) := by decide +kernel
theorem dX9_at_31 : decode cX9_at 31 = .ok (.invokevirtual 520, 3) := by decide +kernel
theorem dX9_at_34 : decode cX9_at 34 = .ok (.aload_n 0, 1) := by decide +kernel
theorem dX9_at_35 : decode cX9_at 35 = .ok (.getfield 24, 3) := by decide +kernel
theorem dX9_at_38 : decode cX9_at 38 = .ok (.iload_n 1, 1) := by decide +kernel
theorem dX9_at_39 : decode cX9_at 39 = .ok (.invokestatic 523, 3) := by decide +kernel
theorem dX9_at_42 : decode cX9_at 42 = .ok (.istore 4, 2) := by decide +kernel
theorem dX9_at_44 : decode cX9_at 44 = .ok (.aload_n 0, 1) := by decide +kernel
theorem dX9_at_45 : decode cX9_at 45 = .ok (.iload 4, 2) := by decide +kernel
theorem dX9_at_47 : decode cX9_at 47 = .ok (.iconst (-1), 1) := by decide +kernel
theorem dX9_at_48 : decode cX9_at 48 = .ok (.if_icmp .ne 8, 3) := by decide +kernel
theorem dX9_at_51 : decode cX9_at 51 = .ok (.bipush (-2), 2) := by decide +kernel
theorem dX9_at_53 : decode cX9_at 53 = .ok (.goto 12, 3) := by decide +kernel
theorem dX9_at_56 : decode cX9_at 56 = .ok (.aload_n 0, 1) := by decide +kernel
theorem dX9_at_57 : decode cX9_at 57 = .ok (.getfield 24, 3) := by decide +kernel
theorem dX9_at_60 : decode cX9_at 60 = .ok (.iload 4, 2) := by decide +kernel
theorem dX9_at_62 : decode cX9_at 62 = .ok (.invokestatic 409, 3) := by decide +kernel
theorem dX9_at_65 : decode cX9_at 65 = .ok (.invokevirtual 64, 3) := by decide +kernel
theorem dX9_at_68 : decode cX9_at 68 = .ok (.ireturn, 1) := by decide +kernel
theorem dX9_ran_0 : decode cX9_ran 0 = .ok (.aload_n 0, 1) := by decide +kernel
theorem dX9_ran_1 : decode cX9_ran 1 = .ok (.iconst 0, 1) := by decide +kernel
theorem dX9_ran_2 : decode cX9_ran 2 = .ok (.putfield 54, 3) := by decide +kernel
theorem dX9_ran_5 : decode cX9_ran 5 = .ok (.iload_n 1, 1) := by decide +kernel
theorem dX9_ran_6 : decode cX9_ran 6 = .ok (.ifCond .ge 7, 3) := by decide +kernel
theorem dX9_ran_9 : decode cX9_ran 9 = .ok (.iconst 1, 1) := by decide +kernel
theorem dX9_ran_10 : decode cX9_ran 10 = .ok (.goto 8, 3) := by decide +kernel
theorem dX9_ran_13 : decode cX9_ran 13 = .ok (.aload_n 0, 1) := by decide +kernel
theorem dX9_ran_14 : decode cX9_ran 14 = .ok (.iload_n 2, 1) := by decide +kernel
theorem dX9_ran_15 : decode cX9_ran 15 = .ok (.invokevirtual 517, 3) := by decide +kernel
theorem dX9_ran_18 : decode cX9_ran 18 = .ok (.istore_n 3, 1) := by decide +kernel
theorem dX9_ran_19 : decode cX9_ran 19 = .ok (.iload_n 3, 1) := by decide +kernel
theorem dX9_ran_20 : decode cX9_ran 20 = .ok (.ifCond .le 9, 3) := by decide +kernel
theorem dX9_ran_23 : decode cX9_ran 23 = .ok (.aload_n 0, 1) := by decide +kernel
theorem dX9_ran_24 : decode cX9_ran 24 = .ok (.iload_n 3, 1) := by decide +kernel
theorem dX9_ran_25 : decode cX9_ran 25 = .ok (.invokevirtual 60, 3) := by decide +kernel
theorem dX9_ran_28 : decode cX9_ran 28 = .ok (.ireturn, 1) := by decide +kernel
theorem dX9_ran_29 : decode cX9_ran 29 = .ok (.aload_n 0, 1) := by decide +kernel
theorem dX9_ran_30 : decode cX9_ran 30 = .ok (.iload_n 2, 1) := by decide +kernel
theorem dX9_ran_31 : decode cX9_ran 31 = .ok (.invokevirtual 520, 3) := by decide +kernel
theorem dX9_ran_34 : decode cX9_ran 34 = .ok (.aload_n 0, 1) := by decide +kernel
theorem dX9_ran_35 : decode cX9_ran 35 = .ok (.aload_n 0, 1) := by decide +kernel
theorem dX9_ran_36 : decode cX9_ran 36 = .ok (.getfield 24, 3) := by decide +kernel
theorem dX9_ran_39 : decode cX9_ran 39 = .ok (.iload_n 1, 1) := by decide +kernel
theorem dX9_ran_40 : decode cX9_ran 40 = .ok (.invokestatic 523, 3) := by decide +kernel
theorem dX9_ran_43 : decode cX9_ran 43 = .ok (.iconst (-1), 1) := by decide +kernel
theorem dX9_ran_44 : decode cX9_ran 44 = .ok (.if_icmp .ne 7, 3) := by decide +kernel
theorem dX9_ran_47 : decode cX9_ran 47 = .ok (.iconst 0, 1) := by decide +kernel
theorem dX9_ran_48 : decode cX9_ran 48 = .ok (.goto 9, 3) := by decide +kernel
theorem dX9_ran_51 : decode cX9_ran 51 = .ok (.aload_n 0, 1) := by decide +kernel
theorem dX9_ran_52 : decode cX9_ran 52 = .ok (.getfield 42, 3) := by decide +kernel
theorem dX9_ran_55 : decode cX9_ran 55 = .ok (.iload_n 1, 1) := by decide +kernel
theorem dX9_ran_56 : decode cX9_ran 56 = .ok (.iaload, 1) := by decide +kernel
theorem dX9_ran_57 : decode cX9_ran 57 = .ok (.invokevirtual 64, 3) := by decide +kernel
theorem dX9_ran_60 : decode cX9_ran 60 = .ok (.ireturn, 1) := by decide +kernel
theorem dX9_runner_0 : decode cX9_runner 0 = .ok (.aload_n 0, 1) := by decide +kernel
theorem dX9_runner_1 : decode cX9_runner 1 = .ok (.iconst 0, 1) := by decide +kernel
theorem dX9_runner_2 : decode cX9_runner 2 = .ok (.putfield 54, 3) := by decide +kernel
theorem dX9_runner_5 : decode cX9_runner 5 = .ok (.aload_n 0, 1) := by decide +kernel
theorem dX9_runner_6 : decode cX9_runner 6 = .ok (.iload_n 1, 1) := by decide +kernel
theorem dX9_runner_7 : decode cX9_runner 7 = .ok (.invokevirtual 517, 3) := by decide +kernel
theorem dX9_runner_10 : decode cX9_runner 10 = .ok (.istore_n 2, 1) := by decide +kernel
theorem dX9_runner_11 : decode cX9_runner 11 = .ok (.iload_n 2, 1) := by decide +kernel
theorem dX9_runner_12 : decode cX9_runner 12 = .ok (.ifCond .le 9, 3) := by decide +kernel
theorem dX9_runner_15 : decode cX9_runner 15 = .ok (.aload_n 0, 1) := by decide +kernel
theorem dX9_runner_16 : decode cX9_runner 16 = .ok (.iload_n 2, 1) := by decide +kernel
theorem dX9_runner_17 : decode cX9_runner 17 = .ok (.invokevirtual 60, 3) := by decide +kernel
theorem dX9_runner_20 : decode cX9_runner 20 = .ok (.ireturn, 1) := by decide +kernel
theorem dX9_runner_21 : decode cX9_runner 21 = .ok (.aload_n 0, 1) := by decide +kernel
theorem dX9_runner_22 : decode cX9_runner 22 = .ok (.iload_n 1, 1) := by decide +kernel
theorem dX9_runner_23 : decode cX9_runner 23 = .ok (.invokevirtual 520, 3) := by decide +kernel
theorem dX9_runner_26 : decode cX9_runner 26 = .ok (.iconst 0, 1) := by decide +kernel
theorem dX9_runner_27 : decode cX9_runner 27 = .ok (.istore_n 3, 1) := by decide +kernel
theorem dX9_runner_28 : decode cX9_runner 28 = .ok (.iconst 1, 1) := by decide +kernel
theorem dX9_runner_29 : decode cX9_runner 29 = .ok (.istore 4, 2) := by decide +kernel
theorem dX9_runner_31 : decode cX9_runner 31 = .ok (.iload 4, 2) := by decide +kernel
theorem dX9_runner_33 : decode cX9_runner 33 = .ok (.aload_n 0, 1) := by decide +kernel
theorem dX9_runner_34 : decode cX9_runner 34 = .ok (.getfield 24, 3) := by decide +kernel
theorem dX9_runner_37 : decode cX9_runner 37 = .ok (.sipush 289, 3) := by decide +kernel
theorem dX9_runner_40 : decode cX9_runner 40 = .ok (.iaload, 1) := by decide +kernel
theorem dX9_runner_41 : decode cX9_runner 41 = .ok (.if_icmp .ge 46, 3) := by decide +kernel
theorem dX9_runner_44 : decode cX9_runner 44 = .ok (.aload_n 0, 1) := by decide +kernel
theorem dX9_runner_45 : decode cX9_runner 45 = .ok (.getfield 42, 3) := by decide +kernel
theorem dX9_runner_48 : decode cX9_runner 48 = .ok (.aload_n 0, 1) := by decide +kernel
theorem dX9_runner_49 : decode cX9_runner 49 = .ok (.getfield 24, 3) := by decide +kernel
theorem dX9_runner_52 : decode cX9_runner 52 = .ok (.sipush 204, 3) := by decide +kernel
theorem dX9_runner_55 : decode cX9_runner 55 = .ok (.iload 4, 2) := by decide +kernel
theorem dX9_runner_57 : decode cX9_runner 57 = .ok (.iadd, 1) := by decide +kernel
theorem dX9_runner_58 : decode cX9_runner 58 = .ok (.iaload, 1) := by decide +kernel
theorem dX9_runner_59 : decode cX9_runner 59 = .ok (.iaload, 1) := by decide +kernel
theorem dX9_runner_60 : decode cX9_runner 60 = .ok (.aload_n 0, 1) := by decide +kernel
theorem dX9_runner_61 : decode cX9_runner 61 = .ok (.getfield 42, 3) := by decide +kernel
theorem dX9_runner_64 : decode cX9_runner 64 = .ok (.aload_n 0, 1) := by decide +kernel
theorem dX9_runner_65 : decode cX9_runner 65 = .ok (.getfield 24, 3) := by decide +kernel
theorem dX9_runner_68 : decode cX9_runner 68 = .ok (.sipush 204, 3) := by decide +kernel
theorem dX9_runner_71 : decode cX9_runner 71 = .ok (.iload_n 3, 1) := by decide +kernel
theorem dX9_runner_72 : decode cX9_runner 72 = .ok (.iadd, 1) := by decide +kernel
theorem dX9_runner_73 : decode cX9_runner 73 = .ok (.iaload, 1) := by decide +kernel
theorem dX9_runner_74 : decode cX9_runner 74 = .ok (.iaload, 1) := by decide +kernel
theorem dX9_runner_75 : decode cX9_runner 75 = .ok (.if_icmp .le 6, 3) := by decide +kernel
theorem dX9_runner_78 : decode cX9_runner 78 = .ok (.iload 4, 2) := by decide +kernel
theorem dX9_runner_80 : decode cX9_runner 80 = .ok (.istore_n 3, 1) := by decide +kernel
theorem dX9_runner_81 : decode cX9_runner 81 = .ok (.iinc 4 1, 3) := by decide +kernel
theorem dX9_runner_84 : decode cX9_runner 84 = .ok (.goto (-53), 3) := by decide +kernel
theorem dX9_runner_87 : decode cX9_runner 87 = .ok (.aload_n 0, 1) := by decide +kernel
theorem dX9_runner_88 : decode cX9_runner 88 = .ok (.aload_n 0, 1) := by decide +kernel
theorem dX9_runner_89 : decode cX9_runner 89 = .ok (.getfield 24, 3) := by decide +kernel
theorem dX9_runner_92 : decode cX9_runner 92 = .ok (.sipush 204, 3) := by decide +kernel
theorem dX9_runner_95 : decode cX9_runner 95 = .ok (.iload_n 3, 1) := by decide +kernel
theorem dX9_runner_96 : decode cX9_runner 96 = .ok (.iadd, 1) := by decide +kernel
theorem dX9_runner_97 : decode cX9_runner 97 = .ok (.iaload, 1) := by decide +kernel
theorem dX9_runner_98 : decode cX9_runner 98 = .ok (.invokevirtual 64, 3) := by decide +kernel
theorem dX9_runner_101 : decode cX9_runner 101 = .ok (.ireturn, 1) := by decide +kernel
theorem dX9_widest_0 : decode cX9_widest 0 = .ok (.aload_n 0, 1) := by decide +kernel
theorem dX9_widest_1 : decode cX9_widest 1 = .ok (.iconst 0, 1) := by decide +kernel
theorem dX9_widest_2 : decode cX9_widest 2 = .ok (.putfield 54, 3) := by decide +kernel
theorem dX9_widest_5 : decode cX9_widest 5 = .ok (.aload_n 0, 1) := by decide +kernel
theorem dX9_widest_6 : decode cX9_widest 6 = .ok (.iload_n 1, 1) := by decide +kernel
theorem dX9_widest_7 : decode cX9_widest 7 = .ok (.invokevirtual 517, 3) := by decide +kernel
theorem dX9_widest_10 : decode cX9_widest 10 = .ok (.istore_n 2, 1) := by decide +kernel
theorem dX9_widest_11 : decode cX9_widest 11 = .ok (.iload_n 2, 1) := by decide +kernel
theorem dX9_widest_12 : decode cX9_widest 12 = .ok (.ifCond .le 9, 3) := by decide +kernel
theorem dX9_widest_15 : decode cX9_widest 15 = .ok (.aload_n 0, 1) := by decide +kernel
theorem dX9_widest_16 : decode cX9_widest 16 = .ok (.iload_n 2, 1) := by decide +kernel
theorem dX9_widest_17 : decode cX9_widest 17 = .ok (.invokevirtual 60, 3) := by decide +kernel
theorem dX9_widest_20 : decode cX9_widest 20 = .ok (.ireturn, 1) := by decide +kernel
theorem dX9_widest_21 : decode cX9_widest 21 = .ok (.aload_n 0, 1) := by decide +kernel
theorem dX9_widest_22 : decode cX9_widest 22 = .ok (.iload_n 1, 1) := by decide +kernel
theorem dX9_widest_23 : decode cX9_widest 23 = .ok (.invokevirtual 520, 3) := by decide +kernel
theorem dX9_widest_26 : decode cX9_widest 26 = .ok (.bipush (-2), 2) := by decide +kernel
theorem dX9_widest_28 : decode cX9_widest 28 = .ok (.istore_n 3, 1) := by decide +kernel
theorem dX9_widest_29 : decode cX9_widest 29 = .ok (.iconst 1, 1) := by decide +kernel
theorem dX9_widest_30 : decode cX9_widest 30 = .ok (.istore 4, 2) := by decide +kernel
theorem dX9_widest_32 : decode cX9_widest 32 = .ok (.iload 4, 2) := by decide +kernel
theorem dX9_widest_34 : decode cX9_widest 34 = .ok (.aload_n 0, 1) := by decide +kernel
theorem dX9_widest_35 : decode cX9_widest 35 = .ok (.getfield 24, 3) := by decide +kernel
theorem dX9_widest_38 : decode cX9_widest 38 = .ok (.sipush 289, 3) := by decide +kernel
theorem dX9_widest_41 : decode cX9_widest 41 = .ok (.iaload, 1) := by decide +kernel
theorem dX9_widest_42 : decode cX9_widest 42 = .ok (.if_icmp .ge 36, 3) := by decide +kernel
theorem dX9_widest_45 : decode cX9_widest 45 = .ok (.aload_n 0, 1) := by decide +kernel
theorem dX9_widest_46 : decode cX9_widest 46 = .ok (.getfield 24, 3) := by decide +kernel
theorem dX9_widest_49 : decode cX9_widest 49 = .ok (.iload 4, 2) := by decide +kernel
theorem dX9_widest_51 : decode cX9_widest 51 = .ok (.invokestatic 458, 3) := by decide +kernel
theorem dX9_widest_54 : decode cX9_widest 54 = .ok (.iload_n 3, 1) := by decide +kernel
theorem dX9_widest_55 : decode cX9_widest 55 = .ok (.if_icmp .le 15, 3) := by decide +kernel
theorem dX9_widest_58 : decode cX9_widest 58 = .ok (.aload_n 0, 1) := by decide +kernel
theorem dX9_widest_59 : decode cX9_widest 59 = .ok (.getfield 24, 3) := by decide +kernel
