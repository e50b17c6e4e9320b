theorem dX9_widest_62 : decode cX9_widest 62 = .ok (.iload 4, 2) := by decide +kernel
theorem dX9_widest_64 : decode cX9_widest 64 = .ok (.invokestatic 458, 3) := by decide +kernel
theorem dX9_widest_67 : decode cX9_widest 67 = .ok (.goto 4, 3) := by decide +kernel
theorem dX9_widest_70 : decode cX9_widest 70 = .ok (.iload_n 3, 1) := by decide +kernel
theorem dX9_widest_71 : decode cX9_widest 71 = .ok (.istore_n 3, 1) := by decide +kernel
theorem dX9_widest_72 : decode cX9_widest 72 = .ok (.iinc 4 1, 3) := by decide +kernel
theorem dX9_widest_75 : decode cX9_widest 75 = .ok (.goto (-43), 3) := by decide +kernel
theorem dX9_widest_78 : decode cX9_widest 78 = .ok (.aload_n 0, 1) := by decide +kernel
theorem dX9_widest_79 : decode cX9_widest 79 = .ok (.iload_n 3, 1) := by decide +kernel
theorem dX9_widest_80 : decode cX9_widest 80 = .ok (.invokevirtual 64, 3) := by decide +kernel
theorem dX9_widest_83 : decode cX9_widest 83 = .ok (.ireturn, 1) := by decide +kernel
theorem dX9_tornIn_0 : decode cX9_tornIn 0 = .ok (.aload_n 0, 1) := by decide +kernel
theorem dX9_tornIn_1 : decode cX9_tornIn 1 = .ok (.invokevirtual 498, 3) := by decide +kernel
theorem dX9_tornIn_4 : decode cX9_tornIn 4 = .ok (.aload_n 0, 1) := by decide +kernel
theorem dX9_tornIn_5 : decode cX9_tornIn 5 = .ok (.invokevirtual 501, 3) := by decide +kernel
theorem dX9_tornIn_8 : decode cX9_tornIn 8 = .ok (.iconst 0, 1) := by decide +kernel
theorem dX9_tornIn_9 : decode cX9_tornIn 9 = .ok (.istore_n 2, 1) := by decide +kernel
theorem dX9_tornIn_10 : decode cX9_tornIn 10 = .ok (.iload_n 2, 1) := by decide +kernel
theorem dX9_tornIn_11 : decode cX9_tornIn 11 = .ok (.iload_n 1, 1) := by decide +kernel
theorem dX9_tornIn_12 : decode cX9_tornIn 12 = .ok (.if_icmp .ge 36, 3) := by decide +kernel
theorem dX9_tornIn_15 : decode cX9_tornIn 15 = .ok (.aload_n 0, 1) := by decide +kernel
theorem dX9_tornIn_16 : decode cX9_tornIn 16 = .ok (.aload_n 0, 1) := by decide +kernel
theorem dX9_tornIn_17 : decode cX9_tornIn 17 = .ok (.getfield 24, 3) := by decide +kernel
theorem dX9_tornIn_20 : decode cX9_tornIn 20 = .ok (.iconst 0, 1) := by decide +kernel
theorem dX9_tornIn_21 : decode cX9_tornIn 21 = .ok (.invokevirtual 504, 3) := by decide +kernel
theorem dX9_tornIn_24 : decode cX9_tornIn 24 = .ok (.aload_n 0, 1) := by decide +kernel
theorem dX9_tornIn_25 : decode cX9_tornIn 25 = .ok (.aload_n 0, 1) := by decide +kernel
theorem dX9_tornIn_26 : decode cX9_tornIn 26 = .ok (.getfield 474, 3) := by decide +kernel
theorem dX9_tornIn_29 : decode cX9_tornIn 29 = .ok (.putfield 526, 3) := by decide +kernel
theorem dX9_tornIn_32 : decode cX9_tornIn 32 = .ok (.aload_n 0, 1) := by decide +kernel
theorem dX9_tornIn_33 : decode cX9_tornIn 33 = .ok (.getfield 474, 3) := by decide +kernel
theorem dX9_tornIn_36 : decode cX9_tornIn 36 = .ok (.iconst (-1), 1) := by decide +kernel
theorem dX9_tornIn_37 : decode cX9_tornIn 37 = .ok (.if_icmp .eq 5, 3) := by decide +kernel
theorem dX9_tornIn_40 : decode cX9_tornIn 40 = .ok (.iload_n 2, 1) := by decide +kernel
theorem dX9_tornIn_41 : decode cX9_tornIn 41 = .ok (.ireturn, 1) := by decide +kernel
theorem dX9_tornIn_42 : decode cX9_tornIn 42 = .ok (.iinc 2 1, 3) := by decide +kernel
theorem dX9_tornIn_45 : decode cX9_tornIn 45 = .ok (.goto (-35), 3) := by decide +kernel
theorem dX9_tornIn_48 : decode cX9_tornIn 48 = .ok (.bipush (-2), 2) := by decide +kernel
theorem dX9_tornIn_50 : decode cX9_tornIn 50 = .ok (.ireturn, 1) := by decide +kernel
theorem dX9_torn_0 : decode cX9_torn 0 = .ok (.aload_n 0, 1) := by decide +kernel
theorem dX9_torn_1 : decode cX9_torn 1 = .ok (.iconst 0, 1) := by decide +kernel
theorem dX9_torn_2 : decode cX9_torn 2 = .ok (.putfield 54, 3) := by decide +kernel
theorem dX9_torn_5 : decode cX9_torn 5 = .ok (.aload_n 0, 1) := by decide +kernel
theorem dX9_torn_6 : decode cX9_torn 6 = .ok (.iload_n 1, 1) := by decide +kernel
theorem dX9_torn_7 : decode cX9_torn 7 = .ok (.invokevirtual 517, 3) := by decide +kernel
theorem dX9_torn_10 : decode cX9_torn 10 = .ok (.istore_n 2, 1) := by decide +kernel
theorem dX9_torn_11 : decode cX9_torn 11 = .ok (.iload_n 2, 1) := by decide +kernel
theorem dX9_torn_12 : decode cX9_torn 12 = .ok (.ifCond .le 11, 3) := by decide +kernel
theorem dX9_torn_15 : decode cX9_torn 15 = .ok (.aload_n 0, 1) := by decide +kernel
theorem dX9_torn_16 : decode cX9_torn 16 = .ok (.iload_n 2, 1) := by decide +kernel
theorem dX9_torn_17 : decode cX9_torn 17 = .ok (.invokevirtual 60, 3) := by decide +kernel
theorem dX9_torn_20 : decode cX9_torn 20 = .ok (.goto 12, 3) := by decide +kernel
theorem dX9_torn_23 : decode cX9_torn 23 = .ok (.aload_n 0, 1) := by decide +kernel
theorem dX9_torn_24 : decode cX9_torn 24 = .ok (.aload_n 0, 1) := by decide +kernel
theorem dX9_torn_25 : decode cX9_torn 25 = .ok (.iload_n 1, 1) := by decide +kernel
theorem dX9_torn_26 : decode cX9_torn 26 = .ok (.invokevirtual 529, 3) := by decide +kernel
theorem dX9_torn_29 : decode cX9_torn 29 = .ok (.invokevirtual 64, 3) := by decide +kernel
theorem dX9_torn_32 : decode cX9_torn 32 = .ok (.ireturn, 1) := by decide +kernel
theorem dX9_tornBy_0 : decode cX9_tornBy 0 = .ok (.aload_n 0, 1) := by decide +kernel
theorem dX9_tornBy_1 : decode cX9_tornBy 1 = .ok (.iconst 0, 1) := by decide +kernel
theorem dX9_tornBy_2 : decode cX9_tornBy 2 = .ok (.putfield 54, 3) := by decide +kernel
theorem dX9_tornBy_5 : decode cX9_tornBy 5 = .ok (.aload_n 0, 1) := by decide +kernel
theorem dX9_tornBy_6 : decode cX9_tornBy 6 = .ok (.iload_n 1, 1) := by decide +kernel
theorem dX9_tornBy_7 : decode cX9_tornBy 7 = .ok (.invokevirtual 517, 3) := by decide +kernel
theorem dX9_tornBy_10 : decode cX9_tornBy 10 = .ok (.istore_n 2, 1) := by decide +kernel
theorem dX9_tornBy_11 : decode cX9_tornBy 11 = .ok (.iload_n 2, 1) := by decide +kernel
theorem dX9_tornBy_12 : decode cX9_tornBy 12 = .ok (.ifCond .le 9, 3) := by decide +kernel
theorem dX9_tornBy_15 : decode cX9_tornBy 15 = .ok (.aload_n 0, 1) := by decide +kernel
theorem dX9_tornBy_16 : decode cX9_tornBy 16 = .ok (.iload_n 2, 1) := by decide +kernel
theorem dX9_tornBy_17 : decode cX9_tornBy 17 = .ok (.invokevirtual 60, 3) := by decide +kernel
theorem dX9_tornBy_20 : decode cX9_tornBy 20 = .ok (.ireturn, 1) := by decide +kernel
theorem dX9_tornBy_21 : decode cX9_tornBy 21 = .ok (.aload_n 0, 1) := by decide +kernel
theorem dX9_tornBy_22 : decode cX9_tornBy 22 = .ok (.iload_n 1, 1) := by decide +kernel
theorem dX9_tornBy_23 : decode cX9_tornBy 23 = .ok (.invokevirtual 529, 3) := by decide +kernel
theorem dX9_tornBy_26 : decode cX9_tornBy 26 = .ok (.bipush (-2), 2) := by decide +kernel
theorem dX9_tornBy_28 : decode cX9_tornBy 28 = .ok (.if_icmp .ne 12, 3) := by decide +kernel
theorem dX9_tornBy_31 : decode cX9_tornBy 31 = .ok (.aload_n 0, 1) := by decide +kernel
theorem dX9_tornBy_32 : decode cX9_tornBy 32 = .ok (.bipush 6, 2) := by decide +kernel
theorem dX9_tornBy_34 : decode cX9_tornBy 34 = .ok (.invokevirtual 60, 3) := by decide +kernel
theorem dX9_tornBy_37 : decode cX9_tornBy 37 = .ok (.goto 11, 3) := by decide +kernel
theorem dX9_tornBy_40 : decode cX9_tornBy 40 = .ok (.aload_n 0, 1) := by decide +kernel
theorem dX9_tornBy_41 : decode cX9_tornBy 41 = .ok (.aload_n 0, 1) := by decide +kernel
theorem dX9_tornBy_42 : decode cX9_tornBy 42 = .ok (.getfield 526, 3) := by decide +kernel
theorem dX9_tornBy_45 : decode cX9_tornBy 45 = .ok (.invokevirtual 64, 3) := by decide +kernel
theorem dX9_tornBy_48 : decode cX9_tornBy 48 = .ok (.ireturn, 1) := by decide +kernel
theorem dX9_joined_0 : decode cX9_joined 0 = .ok (.aload_n 0, 1) := by decide +kernel
theorem dX9_joined_1 : decode cX9_joined 1 = .ok (.iconst 0, 1) := by decide +kernel
theorem dX9_joined_2 : decode cX9_joined 2 = .ok (.putfield 54, 3) := by decide +kernel
theorem dX9_joined_5 : decode cX9_joined 5 = .ok (.aload_n 0, 1) := by decide +kernel
theorem dX9_joined_6 : decode cX9_joined 6 = .ok (.iload_n 1, 1) := by decide +kernel
theorem dX9_joined_7 : decode cX9_joined 7 = .ok (.invokevirtual 517, 3) := by decide +kernel
theorem dX9_joined_10 : decode cX9_joined 10 = .ok (.istore_n 2, 1) := by decide +kernel
theorem dX9_joined_11 : decode cX9_joined 11 = .ok (.iload_n 2, 1) := by decide +kernel
theorem dX9_joined_12 : decode cX9_joined 12 = .ok (.ifCond .le 9, 3) := by decide +kernel
theorem dX9_joined_15 : decode cX9_joined 15 = .ok (.aload_n 0, 1) := by decide +kernel
theorem dX9_joined_16 : decode cX9_joined 16 = .ok (.iload_n 2, 1) := by decide +kernel
theorem dX9_joined_17 : decode cX9_joined 17 = .ok (.invokevirtual 60, 3) := by decide +kernel
theorem dX9_joined_20 : decode cX9_joined 20 = .ok (.ireturn, 1) := by decide +kernel
theorem dX9_joined_21 : decode cX9_joined 21 = .ok (.aload_n 0, 1) := by decide +kernel
theorem dX9_joined_22 : decode cX9_joined 22 = .ok (.iload_n 1, 1) := by decide +kernel
theorem dX9_joined_23 : decode cX9_joined 23 = .ok (.invokevirtual 520, 3) := by decide +kernel
theorem dX9_joined_26 : decode cX9_joined 26 = .ok (.aload_n 0, 1) := by decide +kernel
theorem dX9_joined_27 : decode cX9_joined 27 = .ok (.aload_n 0, 1) := by decide +kernel
theorem dX9_joined_28 : decode cX9_joined 28 = .ok (.getfield 472, 3) := by decide +kernel
theorem dX9_joined_31 : decode cX9_joined 31 = .ok (.invokevirtual 64, 3) := by decide +kernel
theorem dX9_joined_34 : decode cX9_joined 34 = .ok (.ireturn, 1) := by decide +kernel
theorem dX9_ring_0 : decode cX9_ring 0 = .ok (.aload_n 0, 1) := by decide +kernel
theorem dX9_ring_1 : decode cX9_ring 1 = .ok (.iconst 0, 1) := by decide +kernel
theorem dX9_ring_2 : decode cX9_ring 2 = .ok (.putfield 54, 3) := by decide +kernel
theorem dX9_ring_5 : decode cX9_ring 5 = .ok (.aload_n 0, 1) := by decide +kernel
theorem dX9_ring_6 : decode cX9_ring 6 = .ok (.iload_n 1, 1) := by decide +kernel
theorem dX9_ring_7 : decode cX9_ring 7 = .ok (.invokevirtual 517, 3) := by decide +kernel
theorem dX9_ring_10 : decode cX9_ring 10 = .ok (.istore_n 2, 1) := by decide +kernel
theorem dX9_ring_11 : decode cX9_ring 11 = .ok (.iload_n 2, 1) := by decide +kernel
theorem dX9_ring_12 : decode cX9_ring 12 = .ok (.ifCond .le 9, 3) := by decide +kernel
theorem dX9_ring_15 : decode cX9_ring 15 = .ok (.aload_n 0, 1) := by decide +kernel
theorem dX9_ring_16 : decode cX9_ring 16 = .ok (.iload_n 2, 1) := by decide +kernel
theorem dX9_ring_17 : decode cX9_ring 17 = .ok (.invokevirtual 60, 3) := by decide +kernel
theorem dX9_ring_20 : decode cX9_ring 20 = .ok (.ireturn, 1) := by decide +kernel
theorem dX9_ring_21 : decode cX9_ring 21 = .ok (.aload_n 0, 1) := by decide +kernel
theorem dX9_ring_22 : decode cX9_ring 22 = .ok (.invokevirtual 498, 3) := by decide +kernel
theorem dX9_ring_25 : decode cX9_ring 25 = .ok (.aload_n 0, 1) := by decide +kernel
theorem dX9_ring_26 : decode cX9_ring 26 = .ok (.invokevirtual 501, 3) := by decide +kernel
theorem dX9_ring_29 : decode cX9_ring 29 = .ok (.iconst 1, 1) := by decide +kernel
theorem dX9_ring_30 : decode cX9_ring 30 = .ok (.istore_n 3, 1) := by decide +kernel
theorem dX9_ring_31 : decode cX9_ring 31 = .ok (.iload_n 3, 1) := by decide +kernel
theorem dX9_ring_32 : decode cX9_ring 32 = .ok (.iload_n 1, 1) := by decide +kernel
theorem dX9_ring_33 : decode cX9_ring 33 = .ok (.if_icmp .gt 47, 3) := by decide +kernel
theorem dX9_ring_36 : decode cX9_ring 36 = .ok (.aload_n 0, 1) := by decide +kernel
theorem dX9_ring_37 : decode cX9_ring 37 = .ok (.getfield 21, 3) := by decide +kernel
theorem dX9_ring_40 : decode cX9_ring 40 = .ok (.sipush 297, 3) := by decide +kernel
theorem dX9_ring_43 : decode cX9_ring 43 = .ok (.iaload, 1) := by decide +kernel
theorem dX9_ring_44 : decode cX9_ring 44 = .ok (.ifCond .ne 36, 3) := by decide +kernel
theorem dX9_ring_47 : decode cX9_ring 47 = .ok (.aload_n 0, 1) := by decide +kernel
theorem dX9_ring_48 : decode cX9_ring 48 = .ok (.aload_n 0, 1) := by decide +kernel
theorem dX9_ring_49 : decode cX9_ring 49 = .ok (.getfield 24, 3) := by decide +kernel
theorem dX9_ring_52 : decode cX9_ring 52 = .ok (.iconst 0, 1) := by decide +kernel
theorem dX9_ring_53 : decode cX9_ring 53 = .ok (.invokevirtual 504, 3) := by decide +kernel
theorem dX9_ring_56 : decode cX9_ring 56 = .ok (.aload_n 0, 1) := by decide +kernel
theorem dX9_ring_57 : decode cX9_ring 57 = .ok (.getfield 24, 3) := by decide +kernel
theorem dX9_ring_60 : decode cX9_ring 60 = .ok (.sipush 297, 3) := by decide +kernel
theorem dX9_ring_63 : decode cX9_ring 63 = .ok (.iaload, 1) := by decide +kernel
theorem dX9_ring_64 : decode cX9_ring 64 = .ok (.iconst 1, 1) := by decide +kernel
theorem dX9_ring_65 : decode cX9_ring 65 = .ok (.if_icmp .ne 9, 3) := by decide +kernel
theorem dX9_ring_68 : decode cX9_ring 68 = .ok (.aload_n 0, 1) := by decide +kernel
theorem dX9_ring_69 : decode cX9_ring 69 = .ok (.iload_n 3, 1) := by decide +kernel
theorem dX9_ring_70 : decode cX9_ring 70 = .ok (.invokevirtual 64, 3) := by decide +kernel
theorem dX9_ring_73 : decode cX9_ring 73 = .ok (.ireturn, 1) := by decide +kernel
theorem dX9_ring_74 : decode cX9_ring 74 = .ok (.iinc 3 1, 3) := by decide +kernel
theorem dX9_ring_77 : decode cX9_ring 77 = .ok (.goto (-46), 3) := by decide +kernel
theorem dX9_ring_80 : decode cX9_ring 80 = .ok (.aload_n 0, 1) := by decide +kernel
theorem dX9_ring_81 : decode cX9_ring 81 = .ok (.bipush (-2), 2) := by decide +kernel
theorem dX9_ring_83 : decode cX9_ring 83 = .ok (.invokevirtual 64, 3) := by decide +kernel
theorem dX9_ring_86 : decode cX9_ring 86 = .ok (.ireturn, 1) := by decide +kernel
theorem dX9_jolts_0 : decode cX9_jolts 0 = .ok (.aload_n 0, 1) := by decide +kernel
theorem dX9_jolts_1 : decode cX9_jolts 1 = .ok (.invokevirtual 498, 3) := by decide +kernel
theorem dX9_jolts_4 : decode cX9_jolts 4 = .ok (.aload_n 0, 1) := by decide +kernel
theorem dX9_jolts_5 : decode cX9_jolts 5 = .ok (.invokevirtual 501, 3) := by decide +kernel
theorem dX9_jolts_8 : decode cX9_jolts 8 = .ok (.iconst 0, 1) := by decide +kernel
theorem dX9_jolts_9 : decode cX9_jolts 9 = .ok (.istore_n 2, 1) := by decide +kernel
theorem dX9_jolts_10 : decode cX9_jolts 10 = .ok (.iload_n 2, 1) := by decide +kernel
theorem dX9_jolts_11 : decode cX9_jolts 11 = .ok (.aload_n 0, 1) := by decide +kernel
theorem dX9_jolts_12 : decode cX9_jolts 12 = .ok (.getfield 45, 3) := by decide +kernel
theorem dX9_jolts_15 : decode cX9_jolts 15 = .ok (.arraylength, 1) := by decide +kernel
theorem dX9_jolts_16 : decode cX9_jolts 16 = .ok (.if_icmp .ge 17, 3) := by decide +kernel
theorem dX9_jolts_19 : decode cX9_jolts 19 = .ok (.aload_n 0, 1) := by decide +kernel
theorem dX9_jolts_20 : decode cX9_jolts 20 = .ok (.getfield 45, 3) := by decide +kernel
theorem dX9_jolts_23 : decode cX9_jolts 23 = .ok (.iload_n 2, 1) := by decide +kernel
theorem dX9_jolts_24 : decode cX9_jolts 24 = .ok (.bipush (-2), 2) := by decide +kernel
theorem dX9_jolts_26 : decode cX9_jolts 26 = .ok (.iastore, 1) := by decide +kernel
theorem dX9_jolts_27 : decode cX9_jolts 27 = .ok (.iinc 2 1, 3) := by decide +kernel
theorem dX9_jolts_30 : decode cX9_jolts 30 = .ok (.goto (-20), 3) := by decide +kernel
theorem dX9_jolts_33 : decode cX9_jolts 33 = .ok (.iconst 0, 1) := by decide +kernel
theorem dX9_jolts_34 : decode cX9_jolts 34 = .ok (.istore_n 2, 1) := by decide +kernel
theorem dX9_jolts_35 : decode cX9_jolts 35 = .ok (.iload_n 2, 1) := by decide +kernel
theorem dX9_jolts_36 : decode cX9_jolts 36 = .ok (.iload_n 1, 1) := by decide +kernel
theorem dX9_jolts_37 : decode cX9_jolts 37 = .ok (.bipush 12, 2) := by decide +kernel
theorem dX9_jolts_39 : decode cX9_jolts 39 = .ok (.iadd, 1) := by decide +kernel
theorem dX9_jolts_40 : decode cX9_jolts 40 = .ok (.if_icmp .ge 96, 3) := by decide +kernel
theorem dX9_jolts_43 : decode cX9_jolts 43 = .ok (.aload_n 0, 1) := by decide +kernel
theorem dX9_jolts_44 : decode cX9_jolts 44 = .ok (.aload_n 0, 1) := by decide +kernel
theorem dX9_jolts_45 : decode cX9_jolts 45 = .ok (.getfield 24, 3) := by decide +kernel
theorem dX9_jolts_48 : decode cX9_jolts 48 = .ok (.iload_n 2, 1) := by decide +kernel
theorem dX9_jolts_49 : decode cX9_jolts 49 = .ok (.iload_n 1, 1) := by decide +kernel
theorem dX9_jolts_50 : decode cX9_jolts 50 = .ok (.if_icmp .ge 7, 3) := by decide +kernel
theorem dX9_jolts_53 : decode cX9_jolts 53 = .ok (.iconst 1, 1) := by decide +kernel
theorem dX9_jolts_54 : decode cX9_jolts 54 = .ok (.goto 4, 3) := by decide +kernel
theorem dX9_jolts_57 : decode cX9_jolts 57 = .ok (.iconst 0, 1) := by decide +kernel
theorem dX9_jolts_58 : decode cX9_jolts 58 = .ok (.invokevirtual 504, 3) := by decide +kernel
theorem dX9_jolts_61 : decode cX9_jolts 61 = .ok (.iconst 1, 1) := by decide +kernel
theorem dX9_jolts_62 : decode cX9_jolts 62 = .ok (.istore_n 3, 1) := by decide +kernel
theorem dX9_jolts_63 : decode cX9_jolts 63 = .ok (.iload_n 3, 1) := by decide +kernel
theorem dX9_jolts_64 : decode cX9_jolts 64 = .ok (.aload_n 0, 1) := by decide +kernel
theorem dX9_jolts_65 : decode cX9_jolts 65 = .ok (.getfield 24, 3) := by decide +kernel
theorem dX9_jolts_68 : decode cX9_jolts 68 = .ok (.sipush 289, 3) := by decide +kernel
theorem dX9_jolts_71 : decode cX9_jolts 71 = .ok (.iaload, 1) := by decide +kernel
theorem dX9_jolts_72 : decode cX9_jolts 72 = .ok (.if_icmp .ge 58, 3) := by decide +kernel
theorem dX9_jolts_75 : decode cX9_jolts 75 = .ok (.aload_n 0, 1) := by decide +kernel
theorem dX9_jolts_76 : decode cX9_jolts 76 = .ok (.getfield 24, 3) := by decide +kernel
theorem dX9_jolts_79 : decode cX9_jolts 79 = .ok (.iload_n 3, 1) := by decide +kernel
theorem dX9_jolts_80 : decode cX9_jolts 80 = .ok (.invokestatic 458, 3) := by decide +kernel
theorem dX9_jolts_83 : decode cX9_jolts 83 = .ok (.aload_n 0, 1) := by decide +kernel
theorem dX9_jolts_84 : decode cX9_jolts 84 = .ok (.getfield 45, 3) := by decide +kernel
theorem dX9_jolts_87 : decode cX9_jolts 87 = .ok (.aload_n 0, 1) := by decide +kernel
theorem dX9_jolts_88 : decode cX9_jolts 88 = .ok (.getfield 24, 3) := by decide +kernel
theorem dX9_jolts_91 : decode cX9_jolts 91 = .ok (.sipush 204, 3) := by decide +kernel
theorem dX9_jolts_94 : decode cX9_jolts 94 = .ok (.iload_n 3, 1) := by decide +kernel
theorem dX9_jolts_95 : decode cX9_jolts 95 = .ok (.iadd, 1) := by decide +kernel
theorem dX9_jolts_96 : decode cX9_jolts 96 = .ok (.iaload, 1) := by decide +kernel
theorem dX9_jolts_97 : decode cX9_jolts 97 = .ok (.iaload, 1) := by decide +kernel
theorem dX9_jolts_98 : decode cX9_jolts 98 = .ok (.if_icmp .le 26, 3) := by decide +kernel
theorem dX9_jolts_101 : decode cX9_jolts 101 = .ok (.aload_n 0, 1) := by decide +kernel
theorem dX9_jolts_102 : decode cX9_jolts 102 = .ok (.getfield 45, 3) := by decide +kernel
theorem dX9_jolts_105 : decode cX9_jolts 105 = .ok (.aload_n 0, 1) := by decide +kernel
theorem dX9_jolts_106 : decode cX9_jolts 106 = .ok (.getfield 24, 3) := by decide +kernel
theorem dX9_jolts_109 : decode cX9_jolts 109 = .ok (.sipush 204, 3) := by decide +kernel
theorem dX9_jolts_112 : decode cX9_jolts 112 = .ok (.iload_n 3, 1) := by decide +kernel
theorem dX9_jolts_113 : decode cX9_jolts 113 = .ok (.iadd, 1) := by decide +kernel
theorem dX9_jolts_114 : decode cX9_jolts 114 = .ok (.iaload, 1) := by decide +kernel
theorem dX9_jolts_115 : decode cX9_jolts 115 = .ok (.aload_n 0, 1) := by decide +kernel
theorem dX9_jolts_116 : decode cX9_jolts 116 = .ok (.getfield 24, 3) := by decide +kernel
theorem dX9_jolts_119 : decode cX9_jolts 119 = .ok (.iload_n 3, 1) := by decide +kernel
theorem dX9_jolts_120 : decode cX9_jolts 120 = .ok (.invokestatic 458, 3) := by decide +kernel
theorem dX9_jolts_123 : decode cX9_jolts 123 = .ok (.iastore, 1) := by decide +kernel
theorem dX9_jolts_124 : decode cX9_jolts 124 = .ok (.iinc 3 1, 3) := by decide +kernel
theorem dX9_jolts_127 : decode cX9_jolts 127 = .ok (.goto (-64), 3) := by decide +kernel
theorem dX9_jolts_130 : decode cX9_jolts 130 = .ok (.iinc 2 1, 3) := by decide +kernel
theorem dX9_jolts_133 : decode cX9_jolts 133 = .ok (.goto (-98), 3) := by decide +kernel
theorem dX9_jolts_136 : decode cX9_jolts 136 = .ok (.return_, 1) := by decide +kernel
theorem dX9_joltOf_0 : decode cX9_joltOf 0 = .ok (.aload_n 0, 1) := by decide +kernel
theorem dX9_joltOf_1 : decode cX9_joltOf 1 = .ok (.getfield 24, 3) := by decide +kernel
theorem dX9_joltOf_4 : decode cX9_joltOf 4 = .ok (.aload_n 0, 1) := by decide +kernel
theorem dX9_joltOf_5 : decode cX9_joltOf 5 = .ok (.getfield 21, 3) := by decide +kernel
theorem dX9_joltOf_8 : decode cX9_joltOf 8 = .ok (.sipush 204, 3) := by decide +kernel
theorem dX9_joltOf_11 : decode cX9_joltOf 11 = .ok (.iload_n 1, 1) := by decide +kernel
theorem dX9_joltOf_12 : decode cX9_joltOf 12 = .ok (.iadd, 1) := by decide +kernel
theorem dX9_joltOf_13 : decode cX9_joltOf 13 = .ok (.iaload, 1) := by decide +kernel
theorem dX9_joltOf_14 : decode cX9_joltOf 14 = .ok (.invokestatic 523, 3) := by decide +kernel
theorem dX9_joltOf_17 : decode cX9_joltOf 17 = .ok (.iconst (-1), 1) := by decide +kernel
theorem dX9_joltOf_18 : decode cX9_joltOf 18 = .ok (.if_icmp .ne 8, 3) := by decide +kernel
theorem dX9_joltOf_21 : decode cX9_joltOf 21 = .ok (.bipush (-2), 2) := by decide +kernel
theorem dX9_joltOf_23 : decode cX9_joltOf 23 = .ok (.goto 18, 3) := by decide +kernel
theorem dX9_joltOf_26 : decode cX9_joltOf 26 = .ok (.aload_n 0, 1) := by decide +kernel
theorem dX9_joltOf_27 : decode cX9_joltOf 27 = .ok (.getfield 45, 3) := by decide +kernel
theorem dX9_joltOf_30 : decode cX9_joltOf 30 = .ok (.aload_n 0, 1) := by decide +kernel
theorem dX9_joltOf_31 : decode cX9_joltOf 31 = .ok (.getfield 21, 3) := by decide +kernel
theorem dX9_joltOf_34 : decode cX9_joltOf 34 = .ok (.sipush 204, 3) := by decide +kernel
theorem dX9_joltOf_37 : decode cX9_joltOf 37 = .ok (.iload_n 1, 1) := by decide +kernel
theorem dX9_joltOf_38 : decode cX9_joltOf 38 = .ok (.iadd, 1) := by decide +kernel
theorem dX9_joltOf_39 : decode cX9_joltOf 39 = .ok (.iaload, 1) := by decide +kernel
theorem dX9_joltOf_40 : decode cX9_joltOf 40 = .ok (.iaload, 1) := by decide +kernel
theorem dX9_joltOf_41 : decode cX9_joltOf 41 = .ok (.ireturn, 1) := by decide +kernel
theorem dX9_jolt_0 : decode cX9_jolt 0 = .ok (.aload_n 0, 1) := by decide +kernel
theorem dX9_jolt_1 : decode cX9_jolt 1 = .ok (.iconst 0, 1) := by decide +kernel
theorem dX9_jolt_2 : decode cX9_jolt 2 = .ok (.putfield 54, 3) := by decide +kernel
theorem dX9_jolt_5 : decode cX9_jolt 5 = .ok (.aload_n 0, 1) := by decide +kernel
theorem dX9_jolt_6 : decode cX9_jolt 6 = .ok (.iload_n 2, 1) := by decide +kernel
theorem dX9_jolt_7 : decode cX9_jolt 7 = .ok (.invokevirtual 511, 3) := by decide +kernel
theorem dX9_jolt_10 : decode cX9_jolt 10 = .ok (.ifCond .eq 7, 3) := by decide +kernel
theorem dX9_jolt_13 : decode cX9_jolt 13 = .ok (.iload_n 2, 1) := by decide +kernel
theorem dX9_jolt_14 : decode cX9_jolt 14 = .ok (.ifCond .ne 9, 3) := by decide +kernel
theorem dX9_jolt_17 : decode cX9_jolt 17 = .ok (.aload_n 0, 1) := by decide +kernel
theorem dX9_jolt_18 : decode cX9_jolt 18 = .ok (.iconst 1, 1) := by decide +kernel
theorem dX9_jolt_19 : decode cX9_jolt 19 = .ok (.invokevirtual 60, 3) := by decide +kernel
theorem dX9_jolt_22 : decode cX9_jolt 22 = .ok (.ireturn, 1) := by decide +kernel
theorem dX9_jolt_23 : decode cX9_jolt 23 = .ok (.iload_n 1, 1) := by decide +kernel
theorem dX9_jolt_24 : decode cX9_jolt 24 = .ok (.iconst 1, 1) := by decide +kernel
theorem dX9_jolt_25 : decode cX9_jolt 25 = .ok (.iconst 4, 1) := by decide +kernel
theorem dX9_jolt_26 : decode cX9_jolt 26 = .ok (.invokestatic 135, 3) := by decide +kernel
theorem dX9_jolt_29 : decode cX9_jolt 29 = .ok (.ifCond .ne 9, 3) := by decide +kernel
theorem dX9_jolt_32 : decode cX9_jolt 32 = .ok (.aload_n 0, 1) := by decide +kernel
theorem dX9_jolt_33 : decode cX9_jolt 33 = .ok (.iconst 2, 1) := by decide +kernel
theorem dX9_jolt_34 : decode cX9_jolt 34 = .ok (.invokevirtual 60, 3) := by decide +kernel
theorem dX9_jolt_37 : decode cX9_jolt 37 = .ok (.ireturn, 1) := by decide +kernel
theorem dX9_jolt_38 : decode cX9_jolt 38 = .ok (.aload_n 0, 1) := by decide +kernel
theorem dX9_jolt_39 : decode cX9_jolt 39 = .ok (.iload_n 1, 1) := by decide +kernel
theorem dX9_jolt_40 : decode cX9_jolt 40 = .ok (.invokevirtual 532, 3) := by decide +kernel
theorem dX9_jolt_43 : decode cX9_jolt 43 = .ok (.aload_n 0, 1) := by decide +kernel
theorem dX9_jolt_44 : decode cX9_jolt 44 = .ok (.aload_n 0, 1) := by decide +kernel
theorem dX9_jolt_45 : decode cX9_jolt 45 = .ok (.iload_n 2, 1) := by decide +kernel
theorem dX9_jolt_46 : decode cX9_jolt 46 = .ok (.invokevirtual 535, 3) := by decide +kernel
theorem dX9_jolt_49 : decode cX9_jolt 49 = .ok (.invokevirtual 64, 3) := by decide +kernel
theorem dX9_jolt_52 : decode cX9_jolt 52 = .ok (.ireturn, 1) := by decide +kernel
theorem dX9_grows_0 : decode cX9_grows 0 = .ok (.aload_n 0, 1) := by decide +kernel
theorem dX9_grows_1 : decode cX9_grows 1 = .ok (.iconst 0, 1) := by decide +kernel
theorem dX9_grows_2 : decode cX9_grows 2 = .ok (.putfield 54, 3) := by decide +kernel
theorem dX9_grows_5 : decode cX9_grows 5 = .ok (.aload_n 0, 1) := by decide +kernel
theorem dX9_grows_6 : decode cX9_grows 6 = .ok (.iload_n 2, 1) := by decide +kernel
theorem dX9_grows_7 : decode cX9_grows 7 = .ok (.invokevirtual 511, 3) := by decide +kernel
theorem dX9_grows_10 : decode cX9_grows 10 = .ok (.ifCond .eq 17, 3) := by decide +kernel
theorem dX9_grows_13 : decode cX9_grows 13 = .ok (.iload_n 2, 1) := by decide +kernel
theorem dX9_grows_14 : decode cX9_grows 14 = .ok (.ifCond .eq 13, 3) := by decide +kernel
theorem dX9_grows_17 : decode cX9_grows 17 = .ok (.aload_n 0, 1) := by decide +kernel
theorem dX9_grows_18 : decode cX9_grows 18 = .ok (.iload_n 2, 1) := by decide +kernel
theorem dX9_grows_19 : decode cX9_grows 19 = .ok (.iconst 1, 1) := by decide +kernel
theorem dX9_grows_20 : decode cX9_grows 20 = .ok (.iadd, 1) := by decide +kernel
theorem dX9_grows_21 : decode cX9_grows 21 = .ok (.invokevirtual 511, 3) := by decide +kernel
theorem dX9_grows_24 : decode cX9_grows 24 = .ok (.ifCond .ne 9, 3) := by decide +kernel
theorem dX9_grows_27 : decode cX9_grows 27 = .ok (.aload_n 0, 1) := by decide +kernel
theorem dX9_grows_28 : decode cX9_grows 28 = .ok (.iconst 1, 1) := by decide +kernel
theorem dX9_grows_29 : decode cX9_grows 29 = .ok (.invokevirtual 60, 3) := by decide +kernel
theorem dX9_grows_32 : decode cX9_grows 32 = .ok (.ireturn, 1) := by decide +kernel
theorem dX9_grows_33 : decode cX9_grows 33 = .ok (.iload_n 1, 1) := by decide +kernel
theorem dX9_grows_34 : decode cX9_grows 34 = .ok (.iconst 1, 1) := by decide +kernel
theorem dX9_grows_35 : decode cX9_grows 35 = .ok (.iconst 4, 1) := by decide +kernel
theorem dX9_grows_36 : decode cX9_grows 36 = .ok (.invokestatic 135, 3) := by decide +kernel
theorem dX9_grows_39 : decode cX9_grows 39 = .ok (.ifCond .ne 9, 3) := by decide +kernel
theorem dX9_grows_42 : decode cX9_grows 42 = .ok (.aload_n 0, 1) := by decide +kernel
theorem dX9_grows_43 : decode cX9_grows 43 = .ok (.iconst 2, 1) := by decide +kernel
theorem dX9_grows_44 : decode cX9_grows 44 = .ok (.invokevirtual 60, 3) := by decide +kernel
theorem dX9_grows_47 : decode cX9_grows 47 = .ok (.ireturn, 1) := by decide +kernel
theorem dX9_grows_48 : decode cX9_grows 48 = .ok (.aload_n 0, 1) := by decide +kernel
theorem dX9_grows_49 : decode cX9_grows 49 = .ok (.iload_n 1, 1) := by decide +kernel
theorem dX9_grows_50 : decode cX9_grows 50 = .ok (.invokevirtual 532, 3) := by decide +kernel
theorem dX9_grows_53 : decode cX9_grows 53 = .ok (.aload_n 0, 1) := by decide +kernel
theorem dX9_grows_54 : decode cX9_grows 54 = .ok (.iload_n 2, 1) := by decide +kernel
theorem dX9_grows_55 : decode cX9_grows 55 = .ok (.invokevirtual 535, 3) := by decide +kernel
theorem dX9_grows_58 : decode cX9_grows 58 = .ok (.istore_n 3, 1) := by decide +kernel
theorem dX9_grows_59 : decode cX9_grows 59 = .ok (.aload_n 0, 1) := by decide +kernel
theorem dX9_grows_60 : decode cX9_grows 60 = .ok (.iload_n 2, 1) := by decide +kernel
theorem dX9_grows_61 : decode cX9_grows 61 = .ok (.iconst 1, 1) := by decide +kernel
theorem dX9_grows_62 : decode cX9_grows 62 = .ok (.iadd, 1) := by decide +kernel
theorem dX9_grows_63 : decode cX9_grows 63 = .ok (.invokevirtual 535, 3) := by decide +kernel
theorem dX9_grows_66 : decode cX9_grows 66 = .ok (.istore 4, 2) := by decide +kernel
theorem dX9_grows_68 : decode cX9_grows 68 = .ok (.iload_n 3, 1) := by decide +kernel
theorem dX9_grows_69 : decode cX9_grows 69 = .ok (.bipush (-2), 2) := by decide +kernel
theorem dX9_grows_71 : decode cX9_grows 71 = .ok (.if_icmp .eq 10, 3) := by decide +kernel
theorem dX9_grows_74 : decode cX9_grows 74 = .ok (.iload 4, 2) := by decide +kernel
theorem dX9_grows_76 : decode cX9_grows 76 = .ok (.bipush (-2), 2) := by decide +kernel
theorem dX9_grows_78 : decode cX9_grows 78 = .ok (.if_icmp .ne 10, 3) := by decide +kernel
theorem dX9_grows_81 : decode cX9_grows 81 = .ok (.aload_n 0, 1) := by decide +kernel
theorem dX9_grows_82 : decode cX9_grows 82 = .ok (.bipush (-2), 2) := by decide +kernel
theorem dX9_grows_84 : decode cX9_grows 84 = .ok (.invokevirtual 64, 3) := by decide +kernel
theorem dX9_grows_87 : decode cX9_grows 87 = .ok (.ireturn, 1) := by decide +kernel
theorem dX9_grows_88 : decode cX9_grows 88 = .ok (.aload_n 0, 1) := by decide +kernel
theorem dX9_grows_89 : decode cX9_grows 89 = .ok (.iload 4, 2) := by decide +kernel
theorem dX9_grows_91 : decode cX9_grows 91 = .ok (.iload_n 3, 1) := by decide +kernel
theorem dX9_grows_92 : decode cX9_grows 92 = .ok (.if_icmp .le 7, 3) := by decide +kernel
theorem dX9_grows_95 : decode cX9_grows 95 = .ok (.iconst 1, 1) := by decide +kernel
theorem dX9_grows_96 : decode cX9_grows 96 = .ok (.goto 14, 3) := by decide +kernel
theorem dX9_grows_99 : decode cX9_grows 99 = .ok (.iload 4, 2) := by decide +kernel
theorem dX9_grows_101 : decode cX9_grows 101 = .ok (.iload_n 3, 1) := by decide +kernel
theorem dX9_grows_102 : decode cX9_grows 102 = .ok (.if_icmp .ge 7, 3) := by decide +kernel
theorem dX9_grows_105 : decode cX9_grows 105 = .ok (.iconst (-1), 1) := by decide +kernel
theorem dX9_grows_106 : decode cX9_grows 106 = .ok (.goto 4, 3) := by decide +kernel
theorem dX9_grows_109 : decode cX9_grows 109 = .ok (.iconst 0, 1) := by decide +kernel
theorem dX9_grows_110 : decode cX9_grows 110 = .ok (.invokevirtual 64, 3) := by decide +kernel
theorem dX9_grows_113 : decode cX9_grows 113 = .ok (.ireturn, 1) := by decide +kernel
theorem dX9_holds_0 : decode cX9_holds 0 = .ok (.aload_n 0, 1) := by decide +kernel
theorem dX9_holds_1 : decode cX9_holds 1 = .ok (.iconst 0, 1) := by decide +kernel
theorem dX9_holds_2 : decode cX9_holds 2 = .ok (.putfield 54, 3) := by decide +kernel
theorem dX9_holds_5 : decode cX9_holds 5 = .ok (.aload_n 0, 1) := by decide +kernel
theorem dX9_holds_6 : decode cX9_holds 6 = .ok (.getfield 389, 3) := by decide +kernel
theorem dX9_holds_9 : decode cX9_holds 9 = .ok (.ifnonnull 9, 3) := by decide +kernel
theorem dX9_holds_12 : decode cX9_holds 12 = .ok (.aload_n 0, 1) := by decide +kernel
theorem dX9_holds_13 : decode cX9_holds 13 = .ok (.iconst 1, 1) := by decide +kernel
theorem dX9_holds_14 : decode cX9_holds 14 = .ok (.invokevirtual 60, 3) := by decide +kernel
theorem dX9_holds_17 : decode cX9_holds 17 = .ok (.ireturn, 1) := by decide +kernel
theorem dX9_holds_18 : decode cX9_holds 18 = .ok (.iconst 3, 1) := by decide +kernel
theorem dX9_holds_19 : decode cX9_holds 19 = .ok (.istore_n 1, 1) := by decide +kernel
theorem dX9_holds_20 : decode cX9_holds 20 = .ok (.iload_n 1, 1) := by decide +kernel
theorem dX9_holds_21 : decode cX9_holds 21 = .ok (.ifCond .le 58, 3) := by decide +kernel
theorem dX9_holds_24 : decode cX9_holds 24 = .ok (.aload_n 0, 1) := by decide +kernel
theorem dX9_holds_25 : decode cX9_holds 25 = .ok (.invokevirtual 498, 3) := by decide +kernel
theorem dX9_holds_28 : decode cX9_holds 28 = .ok (.aload_n 0, 1) := by decide +kernel
theorem dX9_holds_29 : decode cX9_holds 29 = .ok (.invokevirtual 501, 3) := by decide +kernel
theorem dX9_holds_32 : decode cX9_holds 32 = .ok (.aload_n 0, 1) := by decide +kernel
theorem dX9_holds_33 : decode cX9_holds 33 = .ok (.iload_n 1, 1) := by decide +kernel
theorem dX9_holds_34 : decode cX9_holds 34 = .ok (.putfield 480, 3) := by decide +kernel
theorem dX9_holds_37 : decode cX9_holds 37 = .ok (.iconst 0, 1) := by decide +kernel
theorem dX9_holds_38 : decode cX9_holds 38 = .ok (.istore_n 2, 1) := by decide +kernel
theorem dX9_holds_39 : decode cX9_holds 39 = .ok (.iload_n 2, 1) := by decide +kernel
theorem dX9_holds_40 : decode cX9_holds 40 = .ok (.bipush 12, 2) := by decide +kernel
theorem dX9_holds_42 : decode cX9_holds 42 = .ok (.if_icmp .ge 18, 3) := by decide +kernel
theorem dX9_holds_45 : decode cX9_holds 45 = .ok (.aload_n 0, 1) := by decide +kernel
theorem dX9_holds_46 : decode cX9_holds 46 = .ok (.aload_n 0, 1) := by decide +kernel
theorem dX9_holds_47 : decode cX9_holds 47 = .ok (.getfield 24, 3) := by decide +kernel
theorem dX9_holds_50 : decode cX9_holds 50 = .ok (.iconst 0, 1) := by decide +kernel
theorem dX9_holds_51 : decode cX9_holds 51 = .ok (.invokevirtual 504, 3) := by decide +kernel
theorem dX9_holds_54 : decode cX9_holds 54 = .ok (.iinc 2 1, 3) := by decide +kernel
theorem dX9_holds_57 : decode cX9_holds 57 = .ok (.goto (-18), 3) := by decide +kernel
theorem dX9_holds_60 : decode cX9_holds 60 = .ok (.aload_n 0, 1) := by decide +kernel
theorem dX9_holds_61 : decode cX9_holds 61 = .ok (.getfield 461, 3) := by decide +kernel
theorem dX9_holds_64 : decode cX9_holds 64 = .ok (.ifCond .ne 9, 3) := by decide +kernel
theorem dX9_holds_67 : decode cX9_holds 67 = .ok (.aload_n 0, 1) := by decide +kernel
theorem dX9_holds_68 : decode cX9_holds 68 = .ok (.iload_n 1, 1) := by decide +kernel
theorem dX9_holds_69 : decode cX9_holds 69 = .ok (.invokevirtual 64, 3) := by decide +kernel
theorem dX9_holds_72 : decode cX9_holds 72 = .ok (.ireturn, 1) := by decide +kernel
theorem dX9_holds_73 : decode cX9_holds 73 = .ok (.iinc 1 (-1), 3) := by decide +kernel
theorem dX9_holds_76 : decode cX9_holds 76 = .ok (.goto (-56), 3) := by decide +kernel
theorem dX9_holds_79 : decode cX9_holds 79 = .ok (.aload_n 0, 1) := by decide +kernel
theorem dX9_holds_80 : decode cX9_holds 80 = .ok (.bipush (-2), 2) := by decide +kernel
theorem dX9_holds_82 : decode cX9_holds 82 = .ok (.invokevirtual 64, 3) := by decide +kernel
theorem dX9_holds_85 : decode cX9_holds 85 = .ok (.ireturn, 1) := by decide +kernel
theorem dX9_findsOrder_0 : decode cX9_findsOrder 0 = .ok (.iconst 0, 1) := by decide +kernel
theorem dX9_findsOrder_1 : decode cX9_findsOrder 1 = .ok (.istore_n 1, 1) := by decide +kernel
theorem dX9_findsOrder_2 : decode cX9_findsOrder 2 = .ok (.iload_n 1, 1) := by decide +kernel
theorem dX9_findsOrder_3 : decode cX9_findsOrder 3 = .ok (.aload_n 0, 1) := by decide +kernel
theorem dX9_findsOrder_4 : decode cX9_findsOrder 4 = .ok (.getfield 21, 3) := by decide +kernel
theorem dX9_findsOrder_7 : decode cX9_findsOrder 7 = .ok (.sipush 289, 3) := by decide +kernel
theorem dX9_findsOrder_10 : decode cX9_findsOrder 10 = .ok (.iaload, 1) := by decide +kernel
theorem dX9_findsOrder_11 : decode cX9_findsOrder 11 = .ok (.if_icmp .ge 16, 3) := by decide +kernel
theorem dX9_findsOrder_14 : decode cX9_findsOrder 14 = .ok (.aload_n 0, 1) := by decide +kernel
theorem dX9_findsOrder_15 : decode cX9_findsOrder 15 = .ok (.getfield 48, 3) := by decide +kernel
theorem dX9_findsOrder_18 : decode cX9_findsOrder 18 = .ok (.iload_n 1, 1) := by decide +kernel
theorem dX9_findsOrder_19 : decode cX9_findsOrder 19 = .ok (.iload_n 1, 1) := by decide +kernel
theorem dX9_findsOrder_20 : decode cX9_findsOrder 20 = .ok (.iastore, 1) := by decide +kernel
theorem dX9_findsOrder_21 : decode cX9_findsOrder 21 = .ok (.iinc 1 1, 3) := by decide +kernel
theorem dX9_findsOrder_24 : decode cX9_findsOrder 24 = .ok (.goto (-22), 3) := by decide +kernel
theorem dX9_findsOrder_27 : decode cX9_findsOrder 27 = .ok (.aload_n 0, 1) := by decide +kernel
theorem dX9_findsOrder_28 : decode cX9_findsOrder 28 = .ok (.iconst (-1), 1) := by decide +kernel
theorem dX9_findsOrder_29 : decode cX9_findsOrder 29 = .ok (.putfield 538, 3) := by decide +kernel
theorem dX9_findsOrder_32 : decode cX9_findsOrder 32 = .ok (.iconst 1, 1) := by decide +kernel
theorem dX9_findsOrder_33 : decode cX9_findsOrder 33 = .ok (.istore_n 1, 1) := by decide +kernel
theorem dX9_findsOrder_34 : decode cX9_findsOrder 34 = .ok (.iload_n 1, 1) := by decide +kernel
theorem dX9_findsOrder_35 : decode cX9_findsOrder 35 = .ok (.ifCond .eq 251, 3) := by decide +kernel
theorem dX9_findsOrder_38 : decode cX9_findsOrder 38 = .ok (.aload_n 0, 1) := by decide +kernel
theorem dX9_findsOrder_39 : decode cX9_findsOrder 39 = .ok (.invokevirtual 498, 3) := by decide +kernel
theorem dX9_findsOrder_42 : decode cX9_findsOrder 42 = .ok (.aload_n 0, 1) := by decide +kernel
theorem dX9_findsOrder_43 : decode cX9_findsOrder 43 = .ok (.invokevirtual 501, 3) := by decide +kernel
theorem dX9_findsOrder_46 : decode cX9_findsOrder 46 = .ok (.iconst 1, 1) := by decide +kernel
theorem dX9_findsOrder_47 : decode cX9_findsOrder 47 = .ok (.istore_n 2, 1) := by decide +kernel
theorem dX9_findsOrder_48 : decode cX9_findsOrder 48 = .ok (.iload_n 2, 1) := by decide +kernel
theorem dX9_findsOrder_49 : decode cX9_findsOrder 49 = .ok (.aload_n 0, 1) := by decide +kernel
theorem dX9_findsOrder_50 : decode cX9_findsOrder 50 = .ok (.getfield 21, 3) := by decide +kernel
theorem dX9_findsOrder_53 : decode cX9_findsOrder 53 = .ok (.sipush 289, 3) := by decide +kernel
theorem dX9_findsOrder_56 : decode cX9_findsOrder 56 = .ok (.iaload, 1) := by decide +kernel
theorem dX9_findsOrder_57 : decode cX9_findsOrder 57 = .ok (.if_icmp .ge 131, 3) := by decide +kernel
theorem dX9_findsOrder_60 : decode cX9_findsOrder 60 = .ok (.aload_n 0, 1) := by decide +kernel
theorem dX9_findsOrder_61 : decode cX9_findsOrder 61 = .ok (.getfield 24, 3) := by decide +kernel
theorem dX9_findsOrder_64 : decode cX9_findsOrder 64 = .ok (.sipush 220, 3) := by decide +kernel
theorem dX9_findsOrder_67 : decode cX9_findsOrder 67 = .ok (.iload_n 2, 1) := by decide +kernel
theorem dX9_findsOrder_68 : decode cX9_findsOrder 68 = .ok (.iadd, 1) := by decide +kernel
theorem dX9_findsOrder_69 : decode cX9_findsOrder 69 = .ok (.iaload, 1) := by decide +kernel
theorem dX9_findsOrder_70 : decode cX9_findsOrder 70 = .ok (.istore_n 3, 1) := by decide +kernel
theorem dX9_findsOrder_71 : decode cX9_findsOrder 71 = .ok (.aload_n 0, 1) := by decide +kernel
theorem dX9_findsOrder_72 : decode cX9_findsOrder 72 = .ok (.getfield 24, 3) := by decide +kernel
theorem dX9_findsOrder_75 : decode cX9_findsOrder 75 = .ok (.sipush 204, 3) := by decide +kernel
theorem dX9_findsOrder_78 : decode cX9_findsOrder 78 = .ok (.iload_n 2, 1) := by decide +kernel
theorem dX9_findsOrder_79 : decode cX9_findsOrder 79 = .ok (.iadd, 1) := by decide +kernel
theorem dX9_findsOrder_80 : decode cX9_findsOrder 80 = .ok (.aload_n 0, 1) := by decide +kernel
theorem dX9_findsOrder_81 : decode cX9_findsOrder 81 = .ok (.getfield 21, 3) := by decide +kernel
theorem dX9_findsOrder_84 : decode cX9_findsOrder 84 = .ok (.sipush 204, 3) := by decide +kernel
theorem dX9_findsOrder_87 : decode cX9_findsOrder 87 = .ok (.aload_n 0, 1) := by decide +kernel
theorem dX9_findsOrder_88 : decode cX9_findsOrder 88 = .ok (.getfield 48, 3) := by decide +kernel
theorem dX9_findsOrder_91 : decode cX9_findsOrder 91 = .ok (.iload_n 2, 1) := by decide +kernel
theorem dX9_findsOrder_92 : decode cX9_findsOrder 92 = .ok (.iaload, 1) := by decide +kernel
theorem dX9_findsOrder_93 : decode cX9_findsOrder 93 = .ok (.iadd, 1) := by decide +kernel
theorem dX9_findsOrder_94 : decode cX9_findsOrder 94 = .ok (.iaload, 1) := by decide +kernel
theorem dX9_findsOrder_95 : decode cX9_findsOrder 95 = .ok (.iastore, 1) := by decide +kernel
theorem dX9_findsOrder_96 : decode cX9_findsOrder 96 = .ok (.aload_n 0, 1) := by decide +kernel
theorem dX9_findsOrder_97 : decode cX9_findsOrder 97 = .ok (.getfield 24, 3) := by decide +kernel
theorem dX9_findsOrder_100 : decode cX9_findsOrder 100 = .ok (.sipush 236, 3) := by decide +kernel
theorem dX9_findsOrder_103 : decode cX9_findsOrder 103 = .ok (.iload_n 2, 1) := by decide +kernel
theorem dX9_findsOrder_104 : decode cX9_findsOrder 104 = .ok (.iadd, 1) := by decide +kernel
theorem dX9_findsOrder_105 : decode cX9_findsOrder 105 = .ok (.aload_n 0, 1) := by decide +kernel
theorem dX9_findsOrder_106 : decode cX9_findsOrder 106 = .ok (.getfield 21, 3) := by decide +kernel
theorem dX9_findsOrder_109 : decode cX9_findsOrder 109 = .ok (.sipush 236, 3) := by decide +kernel
theorem dX9_findsOrder_112 : decode cX9_findsOrder 112 = .ok (.aload_n 0, 1) := by decide +kernel
theorem dX9_findsOrder_113 : decode cX9_findsOrder 113 = .ok (.getfield 48, 3) := by decide +kernel
theorem dX9_findsOrder_116 : decode cX9_findsOrder 116 = .ok (.iload_n 2, 1) := by decide +kernel
theorem dX9_findsOrder_117 : decode cX9_findsOrder 117 = .ok (.iaload, 1) := by decide +kernel
theorem dX9_findsOrder_118 : decode cX9_findsOrder 118 = .ok (.iadd, 1) := by decide +kernel
theorem dX9_findsOrder_119 : decode cX9_findsOrder 119 = .ok (.iaload, 1) := by decide +kernel
theorem dX9_findsOrder_120 : decode cX9_findsOrder 120 = .ok (.iastore, 1) := by decide +kernel
theorem dX9_findsOrder_121 : decode cX9_findsOrder 121 = .ok (.aload_n 0, 1) := by decide +kernel
theorem dX9_findsOrder_122 : decode cX9_findsOrder 122 = .ok (.getfield 24, 3) := by decide +kernel
theorem dX9_findsOrder_125 : decode cX9_findsOrder 125 = .ok (.sipush 252, 3) := by decide +kernel
theorem dX9_findsOrder_128 : decode cX9_findsOrder 128 = .ok (.iload_n 2, 1) := by decide +kernel
theorem dX9_findsOrder_129 : decode cX9_findsOrder 129 = .ok (.iadd, 1) := by decide +kernel
theorem dX9_findsOrder_130 : decode cX9_findsOrder 130 = .ok (.aload_n 0, 1) := by decide +kernel
theorem dX9_findsOrder_131 : decode cX9_findsOrder 131 = .ok (.getfield 21, 3) := by decide +kernel
theorem dX9_findsOrder_134 : decode cX9_findsOrder 134 = .ok (.sipush 252, 3) := by decide +kernel
theorem dX9_findsOrder_137 : decode cX9_findsOrder 137 = .ok (.aload_n 0, 1) := by decide +kernel
theorem dX9_findsOrder_138 : decode cX9_findsOrder 138 = .ok (.getfield 48, 3) := by decide +kernel
theorem dX9_findsOrder_141 : decode cX9_findsOrder 141 = .ok (.iload_n 2, 1) := by decide +kernel
theorem dX9_findsOrder_142 : decode cX9_findsOrder 142 = .ok (.iaload, 1) := by decide +kernel
theorem dX9_findsOrder_143 : decode cX9_findsOrder 143 = .ok (.iadd, 1) := by decide +kernel
theorem dX9_findsOrder_144 : decode cX9_findsOrder 144 = .ok (.iaload, 1) := by decide +kernel
theorem dX9_findsOrder_145 : decode cX9_findsOrder 145 = .ok (.iastore, 1) := by decide +kernel
theorem dX9_findsOrder_146 : decode cX9_findsOrder 146 = .ok (.aload_n 0, 1) := by decide +kernel
theorem dX9_findsOrder_147 : decode cX9_findsOrder 147 = .ok (.getfield 24, 3) := by decide +kernel
theorem dX9_findsOrder_150 : decode cX9_findsOrder 150 = .ok (.sipush 268, 3) := by decide +kernel
theorem dX9_findsOrder_153 : decode cX9_findsOrder 153 = .ok (.iload_n 2, 1) := by decide +kernel
theorem dX9_findsOrder_154 : decode cX9_findsOrder 154 = .ok (.iadd, 1) := by decide +kernel
theorem dX9_findsOrder_155 : decode cX9_findsOrder 155 = .ok (.aload_n 0, 1) := by decide +kernel
theorem dX9_findsOrder_156 : decode cX9_findsOrder 156 = .ok (.getfield 21, 3) := by decide +kernel
theorem dX9_findsOrder_159 : decode cX9_findsOrder 159 = .ok (.sipush 268, 3) := by decide +kernel
theorem dX9_findsOrder_162 : decode cX9_findsOrder 162 = .ok (.aload_n 0, 1) := by decide +kernel
theorem dX9_findsOrder_163 : decode cX9_findsOrder 163 = .ok (.getfield 48, 3) := by decide +kernel
theorem dX9_findsOrder_166 : decode cX9_findsOrder 166 = .ok (.iload_n 2, 1) := by decide +kernel
theorem dX9_findsOrder_167 : decode cX9_findsOrder 167 = .ok (.iaload, 1) := by decide +kernel
theorem dX9_findsOrder_168 : decode cX9_findsOrder 168 = .ok (.iadd, 1) := by decide +kernel
theorem dX9_findsOrder_169 : decode cX9_findsOrder 169 = .ok (.iaload, 1) := by decide +kernel
theorem dX9_findsOrder_170 : decode cX9_findsOrder 170 = .ok (.iastore, 1) := by decide +kernel
theorem dX9_findsOrder_171 : decode cX9_findsOrder 171 = .ok (.aload_n 0, 1) := by decide +kernel
theorem dX9_findsOrder_172 : decode cX9_findsOrder 172 = .ok (.getfield 24, 3) := by decide +kernel
theorem dX9_findsOrder_175 : decode cX9_findsOrder 175 = .ok (.sipush 220, 3) := by decide +kernel
theorem dX9_findsOrder_178 : decode cX9_findsOrder 178 = .ok (.iload_n 2, 1) := by decide +kernel
theorem dX9_findsOrder_179 : decode cX9_findsOrder 179 = .ok (.iadd, 1) := by decide +kernel
theorem dX9_findsOrder_180 : decode cX9_findsOrder 180 = .ok (.iload_n 3, 1) := by decide +kernel
theorem dX9_findsOrder_181 : decode cX9_findsOrder 181 = .ok (.iastore, 1) := by decide +kernel
theorem dX9_findsOrder_182 : decode cX9_findsOrder 182 = .ok (.iinc 2 1, 3) := by decide +kernel
theorem dX9_findsOrder_185 : decode cX9_findsOrder 185 = .ok (.goto (-137), 3) := by decide +kernel
theorem dX9_findsOrder_188 : decode cX9_findsOrder 188 = .ok (.iconst 0, 1) := by decide +kernel
theorem dX9_findsOrder_189 : decode cX9_findsOrder 189 = .ok (.istore_n 2, 1) := by decide +kernel
theorem dX9_findsOrder_190 : decode cX9_findsOrder 190 = .ok (.iload_n 2, 1) := by decide +kernel
theorem dX9_findsOrder_191 : decode cX9_findsOrder 191 = .ok (.bipush 12, 2) := by decide +kernel
theorem dX9_findsOrder_193 : decode cX9_findsOrder 193 = .ok (.if_icmp .ge 18, 3) := by decide +kernel
theorem dX9_findsOrder_196 : decode cX9_findsOrder 196 = .ok (.aload_n 0, 1) := by decide +kernel
theorem dX9_findsOrder_197 : decode cX9_findsOrder 197 = .ok (.aload_n 0, 1) := by decide +kernel
theorem dX9_findsOrder_198 : decode cX9_findsOrder 198 = .ok (.getfield 24, 3) := by decide +kernel
theorem dX9_findsOrder_201 : decode cX9_findsOrder 201 = .ok (.iconst 0, 1) := by decide +kernel
theorem dX9_findsOrder_202 : decode cX9_findsOrder 202 = .ok (.invokevirtual 504, 3) := by decide +kernel
theorem dX9_findsOrder_205 : decode cX9_findsOrder 205 = .ok (.iinc 2 1, 3) := by decide +kernel
theorem dX9_findsOrder_208 : decode cX9_findsOrder 208 = .ok (.goto (-18), 3) := by decide +kernel
theorem dX9_findsOrder_211 : decode cX9_findsOrder 211 = .ok (.aload_n 0, 1) := by decide +kernel
theorem dX9_findsOrder_212 : decode cX9_findsOrder 212 = .ok (.getfield 538, 3) := by decide +kernel
theorem dX9_findsOrder_215 : decode cX9_findsOrder 215 = .ok (.iconst (-1), 1) := by decide +kernel
theorem dX9_findsOrder_216 : decode cX9_findsOrder 216 = .ok (.if_icmp .eq 14, 3) := by decide +kernel
theorem dX9_findsOrder_219 : decode cX9_findsOrder 219 = .ok (.aload_n 0, 1) := by decide +kernel
theorem dX9_findsOrder_220 : decode cX9_findsOrder 220 = .ok (.getfield 461, 3) := by decide +kernel
theorem dX9_findsOrder_223 : decode cX9_findsOrder 223 = .ok (.aload_n 0, 1) := by decide +kernel
theorem dX9_findsOrder_224 : decode cX9_findsOrder 224 = .ok (.getfield 538, 3) := by decide +kernel
theorem dX9_findsOrder_227 : decode cX9_findsOrder 227 = .ok (.if_icmp .ge 43, 3) := by decide +kernel
theorem dX9_findsOrder_230 : decode cX9_findsOrder 230 = .ok (.aload_n 0, 1) := by decide +kernel
theorem dX9_findsOrder_231 : decode cX9_findsOrder 231 = .ok (.aload_n 0, 1) := by decide +kernel
theorem dX9_findsOrder_232 : decode cX9_findsOrder 232 = .ok (.getfield 461, 3) := by decide +kernel
theorem dX9_findsOrder_235 : decode cX9_findsOrder 235 = .ok (.putfield 538, 3) := by decide +kernel
theorem dX9_findsOrder_238 : decode cX9_findsOrder 238 = .ok (.iconst 0, 1) := by decide +kernel
theorem dX9_findsOrder_239 : decode cX9_findsOrder 239 = .ok (.istore_n 2, 1) := by decide +kernel
theorem dX9_findsOrder_240 : decode cX9_findsOrder 240 = .ok (.iload_n 2, 1) := by decide +kernel
theorem dX9_findsOrder_241 : decode cX9_findsOrder 241 = .ok (.aload_n 0, 1) := by decide +kernel
theorem dX9_findsOrder_242 : decode cX9_findsOrder 242 = .ok (.getfield 21, 3) := by decide +kernel
theorem dX9_findsOrder_245 : decode cX9_findsOrder 245 = .ok (.sipush 289, 3) := by decide +kernel
theorem dX9_findsOrder_248 : decode cX9_findsOrder 248 = .ok (.iaload, 1) := by decide +kernel
theorem dX9_findsOrder_249 : decode cX9_findsOrder 249 = .ok (.if_icmp .ge 21, 3) := by decide +kernel
theorem dX9_findsOrder_252 : decode cX9_findsOrder 252 = .ok (.aload_n 0, 1) := by decide +kernel
theorem dX9_findsOrder_253 : decode cX9_findsOrder 253 = .ok (.getfield 51, 3) := by decide +kernel
theorem dX9_findsOrder_256 : decode cX9_findsOrder 256 = .ok (.iload_n 2, 1) := by decide +kernel
theorem dX9_findsOrder_257 : decode cX9_findsOrder 257 = .ok (.aload_n 0, 1) := by decide +kernel
theorem dX9_findsOrder_258 : decode cX9_findsOrder 258 = .ok (.getfield 48, 3) := by decide +kernel
theorem dX9_findsOrder_261 : decode cX9_findsOrder 261 = .ok (.iload_n 2, 1) := by decide +kernel
theorem dX9_findsOrder_262 : decode cX9_findsOrder 262 = .ok (.iaload, 1) := by decide +kernel
theorem dX9_findsOrder_263 : decode cX9_findsOrder 263 = .ok (.iastore, 1) := by decide +kernel
theorem dX9_findsOrder_264 : decode cX9_findsOrder 264 = .ok (.iinc 2 1, 3) := by decide +kernel
theorem dX9_findsOrder_267 : decode cX9_findsOrder 267 = .ok (.goto (-27), 3) := by decide +kernel
theorem dX9_findsOrder_270 : decode cX9_findsOrder 270 = .ok (.aload_n 0, 1) := by decide +kernel
theorem dX9_findsOrder_271 : decode cX9_findsOrder 271 = .ok (.aload_n 0, 1) := by decide +kernel
theorem dX9_findsOrder_272 : decode cX9_findsOrder 272 = .ok (.getfield 21, 3) := by decide +kernel
theorem dX9_findsOrder_275 : decode cX9_findsOrder 275 = .ok (.sipush 289, 3) := by decide +kernel
theorem dX9_findsOrder_278 : decode cX9_findsOrder 278 = .ok (.iaload, 1) := by decide +kernel
theorem dX9_findsOrder_279 : decode cX9_findsOrder 279 = .ok (.invokevirtual 541, 3) := by decide +kernel
theorem dX9_findsOrder_282 : decode cX9_findsOrder 282 = .ok (.istore_n 1, 1) := by decide +kernel
theorem dX9_findsOrder_283 : decode cX9_findsOrder 283 = .ok (.goto (-249), 3) := by decide +kernel
theorem dX9_findsOrder_286 : decode cX9_findsOrder 286 = .ok (.return_, 1) := by decide +kernel
theorem dX9_turns_0 : decode cX9_turns 0 = .ok (.iload_n 1, 1) := by decide +kernel
theorem dX9_turns_1 : decode cX9_turns 1 = .ok (.iconst 2, 1) := by decide +kernel
theorem dX9_turns_2 : decode cX9_turns 2 = .ok (.isub, 1) := by decide +kernel
theorem dX9_turns_3 : decode cX9_turns 3 = .ok (.istore_n 2, 1) := by decide +kernel
theorem dX9_turns_4 : decode cX9_turns 4 = .ok (.iload_n 2, 1) := by decide +kernel
theorem dX9_turns_5 : decode cX9_turns 5 = .ok (.ifCond .le 26, 3) := by decide +kernel
theorem dX9_turns_8 : decode cX9_turns 8 = .ok (.aload_n 0, 1) := by decide +kernel
theorem dX9_turns_9 : decode cX9_turns 9 = .ok (.getfield 48, 3) := by decide +kernel
theorem dX9_turns_12 : decode cX9_turns 12 = .ok (.iload_n 2, 1) := by decide +kernel
theorem dX9_turns_13 : decode cX9_turns 13 = .ok (.iaload, 1) := by decide +kernel
theorem dX9_turns_14 : decode cX9_turns 14 = .ok (.aload_n 0, 1) := by decide +kernel
theorem dX9_turns_15 : decode cX9_turns 15 = .ok (.getfield 48, 3) := by decide +kernel
theorem dX9_turns_18 : decode cX9_turns 18 = .ok (.iload_n 2, 1) := by decide +kernel
theorem dX9_turns_19 : decode cX9_turns 19 = .ok (.iconst 1, 1) := by decide +kernel
theorem dX9_turns_20 : decode cX9_turns 20 = .ok (.iadd, 1) := by decide +kernel
theorem dX9_turns_21 : decode cX9_turns 21 = .ok (.iaload, 1) := by decide +kernel
theorem dX9_turns_22 : decode cX9_turns 22 = .ok (.if_icmp .le 9, 3) := by decide +kernel
theorem dX9_turns_25 : decode cX9_turns 25 = .ok (.iinc 2 (-1), 3) := by decide +kernel
theorem dX9_turns_28 : decode cX9_turns 28 = .ok (.goto (-24), 3) := by decide +kernel
theorem dX9_turns_31 : decode cX9_turns 31 = .ok (.iload_n 2, 1) := by decide +kernel
theorem dX9_turns_32 : decode cX9_turns 32 = .ok (.iconst 1, 1) := by decide +kernel
theorem dX9_turns_33 : decode cX9_turns 33 = .ok (.if_icmp .ge 5, 3) := by decide +kernel
theorem dX9_turns_36 : decode cX9_turns 36 = .ok (.iconst 0, 1) := by decide +kernel
theorem dX9_turns_37 : decode cX9_turns 37 = .ok (.ireturn, 1) := by decide +kernel
theorem dX9_turns_38 : decode cX9_turns 38 = .ok (.iload_n 1, 1) := by decide +kernel
theorem dX9_turns_39 : decode cX9_turns 39 = .ok (.iconst 1, 1) := by decide +kernel
theorem dX9_turns_40 : decode cX9_turns 40 = .ok (.isub, 1) := by decide +kernel
theorem dX9_turns_41 : decode cX9_turns 41 = .ok (.istore_n 3, 1) := by decide +kernel
theorem dX9_turns_42 : decode cX9_turns 42 = .ok (.aload_n 0, 1) := by decide +kernel
theorem dX9_turns_43 : decode cX9_turns 43 = .ok (.getfield 48, 3) := by decide +kernel
theorem dX9_turns_46 : decode cX9_turns 46 = .ok (.iload_n 3, 1) := by decide +kernel
theorem dX9_turns_47 : decode cX9_turns 47 = .ok (.iaload, 1) := by decide +kernel
theorem dX9_turns_48 : decode cX9_turns 48 = .ok (.aload_n 0, 1) := by decide +kernel
theorem dX9_turns_49 : decode cX9_turns 49 = .ok (.getfield 48, 3) := by decide +kernel
theorem dX9_turns_52 : decode cX9_turns 52 = .ok (.iload_n 2, 1) := by decide +kernel
theorem dX9_turns_53 : decode cX9_turns 53 = .ok (.iaload, 1) := by decide +kernel
theorem dX9_turns_54 : decode cX9_turns 54 = .ok (.if_icmp .ge 9, 3) := by decide +kernel
theorem dX9_turns_57 : decode cX9_turns 57 = .ok (.iinc 3 (-1), 3) := by decide +kernel
theorem dX9_turns_60 : decode cX9_turns 60 = .ok (.goto (-18), 3) := by decide +kernel
theorem dX9_turns_63 : decode cX9_turns 63 = .ok (.aload_n 0, 1) := by decide +kernel
theorem dX9_turns_64 : decode cX9_turns 64 = .ok (.iload_n 2, 1) := by decide +kernel
theorem dX9_turns_65 : decode cX9_turns 65 = .ok (.iload_n 3, 1) := by decide +kernel
theorem dX9_turns_66 : decode cX9_turns 66 = .ok (.invokevirtual 544, 3) := by decide +kernel
theorem dX9_turns_69 : decode cX9_turns 69 = .ok (.iload_n 2, 1) := by decide +kernel
theorem dX9_turns_70 : decode cX9_turns 70 = .ok (.iconst 1, 1) := by decide +kernel
theorem dX9_turns_71 : decode cX9_turns 71 = .ok (.iadd, 1) := by decide +kernel
theorem dX9_turns_72 : decode cX9_turns 72 = .ok (.istore 4, 2) := by decide +kernel
theorem dX9_turns_74 : decode cX9_turns 74 = .ok (.iload_n 1, 1) := by decide +kernel
theorem dX9_turns_75 : decode cX9_turns 75 = .ok (.iconst 1, 1) := by decide +kernel
theorem dX9_turns_76 : decode cX9_turns 76 = .ok (.isub, 1) := by decide +kernel
theorem dX9_turns_77 : decode cX9_turns 77 = .ok (.istore 5, 2) := by decide +kernel
theorem dX9_turns_79 : decode cX9_turns 79 = .ok (.iload 4, 2) := by decide +kernel
theorem dX9_turns_81 : decode cX9_turns 81 = .ok (.iload 5, 2) := by decide +kernel
theorem dX9_turns_83 : decode cX9_turns 83 = .ok (.if_icmp .ge 20, 3) := by decide +kernel
theorem dX9_turns_86 : decode cX9_turns 86 = .ok (.aload_n 0, 1) := by decide +kernel
theorem dX9_turns_87 : decode cX9_turns 87 = .ok (.iload 4, 2) := by decide +kernel
theorem dX9_turns_89 : decode cX9_turns 89 = .ok (.iload 5, 2) := by decide +kernel
theorem dX9_turns_91 : decode cX9_turns 91 = .ok (.invokevirtual 544, 3) := by decide +kernel
theorem dX9_turns_94 : decode cX9_turns 94 = .ok (.iinc 4 1, 3) := by decide +kernel
theorem dX9_turns_97 : decode cX9_turns 97 = .ok (.iinc 5 (-1), 3) := by decide +kernel
theorem dX9_turns_100 : decode cX9_turns 100 = .ok (.goto (-21), 3) := by decide +kernel
theorem dX9_turns_103 : decode cX9_turns 103 = .ok (.iconst 1, 1) := by decide +kernel
theorem dX9_turns_104 : decode cX9_turns 104 = .ok (.ireturn, 1) := by decide +kernel
theorem dX9_swaps_0 : decode cX9_swaps 0 = .ok (.aload_n 0, 1) := by decide +kernel
theorem dX9_swaps_1 : decode cX9_swaps 1 = .ok (.getfield 48, 3) := by decide +kernel
theorem dX9_swaps_4 : decode cX9_swaps 4 = .ok (.iload_n 1, 1) := by decide +kernel
theorem dX9_swaps_5 : decode cX9_swaps 5 = .ok (.iaload, 1) := by decide +kernel
theorem dX9_swaps_6 : decode cX9_swaps 6 = .ok (.istore_n 3, 1) := by decide +kernel
theorem dX9_swaps_7 : decode cX9_swaps 7 = .ok (.aload_n 0, 1) := by decide +kernel
theorem dX9_swaps_8 : decode cX9_swaps 8 = .ok (.getfield 48, 3) := by decide +kernel
theorem dX9_swaps_11 : decode cX9_swaps 11 = .ok (.iload_n 1, 1) := by decide +kernel
theorem dX9_swaps_12 : decode cX9_swaps 12 = .ok (.aload_n 0, 1) := by decide +kernel
theorem dX9_swaps_13 : decode cX9_swaps 13 = .ok (.getfield 48, 3) := by decide +kernel
theorem dX9_swaps_16 : decode cX9_swaps 16 = .ok (.iload_n 2, 1) := by decide +kernel
theorem dX9_swaps_17 : decode cX9_swaps 17 = .ok (.iaload, 1) := by decide +kernel
theorem dX9_swaps_18 : decode cX9_swaps 18 = .ok (.iastore, 1) := by decide +kernel
theorem dX9_swaps_19 : decode cX9_swaps 19 = .ok (.aload_n 0, 1) := by decide +kernel
theorem dX9_swaps_20 : decode cX9_swaps 20 = .ok (.getfield 48, 3) := by decide +kernel
theorem dX9_swaps_23 : decode cX9_swaps 23 = .ok (.iload_n 2, 1) := by decide +kernel
theorem dX9_swaps_24 : decode cX9_swaps 24 = .ok (.iload_n 3, 1) := by decide +kernel
theorem dX9_swaps_25 : decode cX9_swaps 25 = .ok (.iastore, 1) := by decide +kernel
theorem dX9_swaps_26 : decode cX9_swaps 26 = .ok (.return_, 1) := by decide +kernel
theorem dX9_order_0 : decode cX9_order 0 = .ok (.aload_n 0, 1) := by decide +kernel
theorem dX9_order_1 : decode cX9_order 1 = .ok (.iconst 0, 1) := by decide +kernel
theorem dX9_order_2 : decode cX9_order 2 = .ok (.putfield 54, 3) := by decide +kernel
theorem dX9_order_5 : decode cX9_order 5 = .ok (.aload_n 0, 1) := by decide +kernel
theorem dX9_order_6 : decode cX9_order 6 = .ok (.getfield 389, 3) := by decide +kernel
theorem dX9_order_9 : decode cX9_order 9 = .ok (.ifnonnull 9, 3) := by decide +kernel
theorem dX9_order_12 : decode cX9_order 12 = .ok (.aload_n 0, 1) := by decide +kernel
theorem dX9_order_13 : decode cX9_order 13 = .ok (.iconst 1, 1) := by decide +kernel
theorem dX9_order_14 : decode cX9_order 14 = .ok (.invokevirtual 60, 3) := by decide +kernel
theorem dX9_order_17 : decode cX9_order 17 = .ok (.ireturn, 1) := by decide +kernel
theorem dX9_order_18 : decode cX9_order 18 = .ok (.aload_n 0, 1) := by decide +kernel
theorem dX9_order_19 : decode cX9_order 19 = .ok (.getfield 21, 3) := by decide +kernel
theorem dX9_order_22 : decode cX9_order 22 = .ok (.sipush 289, 3) := by decide +kernel
theorem dX9_order_25 : decode cX9_order 25 = .ok (.iaload, 1) := by decide +kernel
theorem dX9_order_26 : decode cX9_order 26 = .ok (.bipush 7, 2) := by decide +kernel
theorem dX9_order_28 : decode cX9_order 28 = .ok (.if_icmp .le 9, 3) := by decide +kernel
theorem dX9_order_31 : decode cX9_order 31 = .ok (.aload_n 0, 1) := by decide +kernel
theorem dX9_order_32 : decode cX9_order 32 = .ok (.iconst 3, 1) := by decide +kernel
theorem dX9_order_33 : decode cX9_order 33 = .ok (.invokevirtual 60, 3) := by decide +kernel
theorem dX9_order_36 : decode cX9_order 36 = .ok (.ireturn, 1) := by decide +kernel
theorem dX9_order_37 : decode cX9_order 37 = .ok (.aload_n 0, 1) := by decide +kernel
theorem dX9_order_38 : decode cX9_order 38 = .ok (.invokevirtual 548, 3) := by decide +kernel
theorem dX9_order_41 : decode cX9_order 41 = .ok (.aload_n 0, 1) := by decide +kernel
theorem dX9_order_42 : decode cX9_order 42 = .ok (.aload_n 0, 1) := by decide +kernel
theorem dX9_order_43 : decode cX9_order 43 = .ok (.getfield 538, 3) := by decide +kernel
theorem dX9_order_46 : decode cX9_order 46 = .ok (.invokevirtual 64, 3) := by decide +kernel
theorem dX9_order_49 : decode cX9_order 49 = .ok (.ireturn, 1) := by decide +kernel
theorem dX9_orderAt_0 : decode cX9_orderAt 0 = .ok (.aload_n 0, 1) := by decide +kernel
theorem dX9_orderAt_1 : decode cX9_orderAt 1 = .ok (.iconst 0, 1) := by decide +kernel
theorem dX9_orderAt_2 : decode cX9_orderAt 2 = .ok (.putfield 54, 3) := by decide +kernel
theorem dX9_orderAt_5 : decode cX9_orderAt 5 = .ok (.aload_n 0, 1) := by decide +kernel
theorem dX9_orderAt_6 : decode cX9_orderAt 6 = .ok (.iload_n 1, 1) := by decide +kernel
theorem dX9_orderAt_7 : decode cX9_orderAt 7 = .ok (.invokevirtual 511, 3) := by decide +kernel
theorem dX9_orderAt_10 : decode cX9_orderAt 10 = .ok (.ifCond .eq 7, 3) := by decide +kernel
theorem dX9_orderAt_13 : decode cX9_orderAt 13 = .ok (.iload_n 1, 1) := by decide +kernel
theorem dX9_orderAt_14 : decode cX9_orderAt 14 = .ok (.ifCond .ne 9, 3) := by decide +kernel
theorem dX9_orderAt_17 : decode cX9_orderAt 17 = .ok (.aload_n 0, 1) := by decide +kernel
theorem dX9_orderAt_18 : decode cX9_orderAt 18 = .ok (.iconst 1, 1) := by decide +kernel
theorem dX9_orderAt_19 : decode cX9_orderAt 19 = .ok (.invokevirtual 60, 3) := by decide +kernel
theorem dX9_orderAt_22 : decode cX9_orderAt 22 = .ok (.ireturn, 1) := by decide +kernel
theorem dX9_orderAt_23 : decode cX9_orderAt 23 = .ok (.aload_n 0, 1) := by decide +kernel
theorem dX9_orderAt_24 : decode cX9_orderAt 24 = .ok (.getfield 21, 3) := by decide +kernel
theorem dX9_orderAt_27 : decode cX9_orderAt 27 = .ok (.sipush 289, 3) := by decide +kernel
theorem dX9_orderAt_30 : decode cX9_orderAt 30 = .ok (.iaload, 1) := by decide +kernel
theorem dX9_orderAt_31 : decode cX9_orderAt 31 = .ok (.bipush 7, 2) := by decide +kernel
theorem dX9_orderAt_33 : decode cX9_orderAt 33 = .ok (.if_icmp .le 9, 3) := by decide +kernel
theorem dX9_orderAt_36 : decode cX9_orderAt 36 = .ok (.aload_n 0, 1) := by decide +kernel
theorem dX9_orderAt_37 : decode cX9_orderAt 37 = .ok (.iconst 3, 1) := by decide +kernel
theorem dX9_orderAt_38 : decode cX9_orderAt 38 = .ok (.invokevirtual 60, 3) := by decide +kernel
theorem dX9_orderAt_41 : decode cX9_orderAt 41 = .ok (.ireturn, 1) := by decide +kernel
theorem dX9_orderAt_42 : decode cX9_orderAt 42 = .ok (.aload_n 0, 1) := by decide +kernel
theorem dX9_orderAt_43 : decode cX9_orderAt 43 = .ok (.invokevirtual 548, 3) := by decide +kernel
theorem dX9_orderAt_46 : decode cX9_orderAt 46 = .ok (.aload_n 0, 1) := by decide +kernel
theorem dX9_orderAt_47 : decode cX9_orderAt 47 = .ok (.aload_n 0, 1) := by decide +kernel
theorem dX9_orderAt_48 : decode cX9_orderAt 48 = .ok (.getfield 51, 3) := by decide +kernel
theorem dX9_orderAt_51 : decode cX9_orderAt 51 = .ok (.iload_n 1, 1) := by decide +kernel
theorem dX9_orderAt_52 : decode cX9_orderAt 52 = .ok (.iaload, 1) := by decide +kernel
theorem dX9_orderAt_53 : decode cX9_orderAt 53 = .ok (.invokevirtual 64, 3) := by decide +kernel
theorem dX9_orderAt_56 : decode cX9_orderAt 56 = .ok (.ireturn, 1) := by decide +kernel
theorem dX9_leader_0 : decode cX9_leader 0 = .ok (.aload_n 0, 1) := by decide +kernel
theorem dX9_leader_1 : decode cX9_leader 1 = .ok (.iconst 0, 1) := by decide +kernel
theorem dX9_leader_2 : decode cX9_leader 2 = .ok (.putfield 54, 3) := by decide +kernel
theorem dX9_leader_5 : decode cX9_leader 5 = .ok (.aload_n 0, 1) := by decide +kernel
theorem dX9_leader_6 : decode cX9_leader 6 = .ok (.iload_n 1, 1) := by decide +kernel
theorem dX9_leader_7 : decode cX9_leader 7 = .ok (.invokevirtual 517, 3) := by decide +kernel
theorem dX9_leader_10 : decode cX9_leader 10 = .ok (.istore_n 2, 1) := by decide +kernel
theorem dX9_leader_11 : decode cX9_leader 11 = .ok (.iload_n 2, 1) := by decide +kernel
theorem dX9_leader_12 : decode cX9_leader 12 = .ok (.ifCond .le 9, 3) := by decide +kernel
theorem dX9_leader_15 : decode cX9_leader 15 = .ok (.aload_n 0, 1) := by decide +kernel
theorem dX9_leader_16 : decode cX9_leader 16 = .ok (.iload_n 2, 1) := by decide +kernel
theorem dX9_leader_17 : decode cX9_leader 17 = .ok (.invokevirtual 60, 3) := by decide +kernel
theorem dX9_leader_20 : decode cX9_leader 20 = .ok (.ireturn, 1) := by decide +kernel
theorem dX9_leader_21 : decode cX9_leader 21 = .ok (.iconst 0, 1) := by decide +kernel
theorem dX9_leader_22 : decode cX9_leader 22 = .ok (.istore_n 3, 1) := by decide +kernel
theorem dX9_leader_23 : decode cX9_leader 23 = .ok (.iconst (-1), 1) := by decide +kernel
theorem dX9_leader_24 : decode cX9_leader 24 = .ok (.istore 4, 2) := by decide +kernel
theorem dX9_leader_26 : decode cX9_leader 26 = .ok (.iconst 0, 1) := by decide +kernel
theorem dX9_leader_27 : decode cX9_leader 27 = .ok (.istore 5, 2) := by decide +kernel
theorem dX9_leader_29 : decode cX9_leader 29 = .ok (.iload 5, 2) := by decide +kernel
theorem dX9_leader_31 : decode cX9_leader 31 = .ok (.iconst 5, 1) := by decide +kernel
theorem dX9_leader_32 : decode cX9_leader 32 = .ok (.if_icmp .ge 89, 3) := by decide +kernel
theorem dX9_leader_35 : decode cX9_leader 35 = .ok (.iload 5, 2) := by decide +kernel
theorem dX9_leader_37 : decode cX9_leader 37 = .ok (.iconst 3, 1) := by decide +kernel
theorem dX9_leader_38 : decode cX9_leader 38 = .ok (.if_icmp .ne 6, 3) := by decide +kernel
theorem dX9_leader_41 : decode cX9_leader 41 = .ok (.goto 74, 3) := by decide +kernel
theorem dX9_leader_44 : decode cX9_leader 44 = .ok (.aload_n 0, 1) := by decide +kernel
theorem dX9_leader_45 : decode cX9_leader 45 = .ok (.invokevirtual 498, 3) := by decide +kernel
theorem dX9_leader_48 : decode cX9_leader 48 = .ok (.aload_n 0, 1) := by decide +kernel
theorem dX9_leader_49 : decode cX9_leader 49 = .ok (.invokevirtual 501, 3) := by decide +kernel
theorem dX9_leader_52 : decode cX9_leader 52 = .ok (.aload_n 0, 1) := by decide +kernel
theorem dX9_leader_53 : decode cX9_leader 53 = .ok (.getfield 24, 3) := by decide +kernel
theorem dX9_leader_56 : decode cX9_leader 56 = .ok (.sipush 291, 3) := by decide +kernel
theorem dX9_leader_59 : decode cX9_leader 59 = .ok (.iload 5, 2) := by decide +kernel
theorem dX9_leader_61 : decode cX9_leader 61 = .ok (.iastore, 1) := by decide +kernel
theorem dX9_leader_62 : decode cX9_leader 62 = .ok (.iconst 0, 1) := by decide +kernel
theorem dX9_leader_63 : decode cX9_leader 63 = .ok (.istore 6, 2) := by decide +kernel
theorem dX9_leader_65 : decode cX9_leader 65 = .ok (.iload 6, 2) := by decide +kernel
theorem dX9_leader_67 : decode cX9_leader 67 = .ok (.iload_n 1, 1) := by decide +kernel
theorem dX9_leader_68 : decode cX9_leader 68 = .ok (.if_icmp .ge 18, 3) := by decide +kernel
theorem dX9_leader_71 : decode cX9_leader 71 = .ok (.aload_n 0, 1) := by decide +kernel
theorem dX9_leader_72 : decode cX9_leader 72 = .ok (.aload_n 0, 1) := by decide +kernel
theorem dX9_leader_73 : decode cX9_leader 73 = .ok (.getfield 24, 3) := by decide +kernel
theorem dX9_leader_76 : decode cX9_leader 76 = .ok (.iconst 0, 1) := by decide +kernel
theorem dX9_leader_77 : decode cX9_leader 77 = .ok (.invokevirtual 504, 3) := by decide +kernel
theorem dX9_leader_80 : decode cX9_leader 80 = .ok (.iinc 6 1, 3) := by decide +kernel
theorem dX9_leader_83 : decode cX9_leader 83 = .ok (.goto (-18), 3) := by decide +kernel
theorem dX9_leader_86 : decode cX9_leader 86 = .ok (.aload_n 0, 1) := by decide +kernel
theorem dX9_leader_87 : decode cX9_leader 87 = .ok (.getfield 24, 3) := by decide +kernel
theorem dX9_leader_90 : decode cX9_leader 90 = .ok (.sipush 289, 3) := by decide +kernel
theorem dX9_leader_93 : decode cX9_leader 93 = .ok (.iaload, 1) := by decide +kernel
theorem dX9_leader_94 : decode cX9_leader 94 = .ok (.iload 4, 2) := by decide +kernel
theorem dX9_leader_96 : decode cX9_leader 96 = .ok (.if_icmp .gt 6, 3) := by decide +kernel
theorem dX9_leader_99 : decode cX9_leader 99 = .ok (.goto 16, 3) := by decide +kernel
theorem dX9_leader_102 : decode cX9_leader 102 = .ok (.iload 5, 2) := by decide +kernel
theorem dX9_leader_104 : decode cX9_leader 104 = .ok (.istore_n 3, 1) := by decide +kernel
theorem dX9_leader_105 : decode cX9_leader 105 = .ok (.aload_n 0, 1) := by decide +kernel
theorem dX9_leader_106 : decode cX9_leader 106 = .ok (.getfield 24, 3) := by decide +kernel
theorem dX9_leader_109 : decode cX9_leader 109 = .ok (.sipush 289, 3) := by decide +kernel
theorem dX9_leader_112 : decode cX9_leader 112 = .ok (.iaload, 1) := by decide +kernel
theorem dX9_leader_113 : decode cX9_leader 113 = .ok (.istore 4, 2) := by decide +kernel
theorem dX9_leader_115 : decode cX9_leader 115 = .ok (.iinc 5 1, 3) := by decide +kernel
theorem dX9_leader_118 : decode cX9_leader 118 = .ok (.goto (-89), 3) := by decide +kernel
theorem dX9_leader_121 : decode cX9_leader 121 = .ok (.aload_n 0, 1) := by decide +kernel
theorem dX9_leader_122 : decode cX9_leader 122 = .ok (.iload_n 3, 1) := by decide +kernel
theorem dX9_leader_123 : decode cX9_leader 123 = .ok (.invokevirtual 64, 3) := by decide +kernel
theorem dX9_leader_126 : decode cX9_leader 126 = .ok (.ireturn, 1) := by decide +kernel
theorem dX9_plans_0 : decode cX9_plans 0 = .ok (.aload_n 0, 1) := by decide +kernel
theorem dX9_plans_1 : decode cX9_plans 1 = .ok (.iconst (-1), 1) := by decide +kernel
theorem dX9_plans_2 : decode cX9_plans 2 = .ok (.putfield 551, 3) := by decide +kernel
theorem dX9_plans_5 : decode cX9_plans 5 = .ok (.iconst 0, 1) := by decide +kernel
theorem dX9_plans_6 : decode cX9_plans 6 = .ok (.istore_n 2, 1) := by decide +kernel
theorem dX9_plans_7 : decode cX9_plans 7 = .ok (.iload_n 2, 1) := by decide +kernel
theorem dX9_plans_8 : decode cX9_plans 8 = .ok (.iconst 1, 1) := by decide +kernel
theorem dX9_plans_9 : decode cX9_plans 9 = .ok (.iconst 2, 1) := by decide +kernel
theorem dX9_plans_10 : decode cX9_plans 10 = .ok (.iload_n 1, 1) := by decide +kernel
theorem dX9_plans_11 : decode cX9_plans 11 = .ok (.imul, 1) := by decide +kernel
theorem dX9_plans_12 : decode cX9_plans 12 = .ok (.ishl, 1) := by decide +kernel
theorem dX9_plans_13 : decode cX9_plans 13 = .ok (.if_icmp .ge 127, 3) := by decide +kernel
theorem dX9_plans_16 : decode cX9_plans 16 = .ok (.aload_n 0, 1) := by decide +kernel
theorem dX9_plans_17 : decode cX9_plans 17 = .ok (.invokevirtual 498, 3) := by decide +kernel
theorem dX9_plans_20 : decode cX9_plans 20 = .ok (.aload_n 0, 1) := by decide +kernel
theorem dX9_plans_21 : decode cX9_plans 21 = .ok (.invokevirtual 501, 3) := by decide +kernel
theorem dX9_plans_24 : decode cX9_plans 24 = .ok (.aload_n 0, 1) := by decide +kernel
theorem dX9_plans_25 : decode cX9_plans 25 = .ok (.getfield 24, 3) := by decide +kernel
theorem dX9_plans_28 : decode cX9_plans 28 = .ok (.sipush 291, 3) := by decide +kernel
theorem dX9_plans_31 : decode cX9_plans 31 = .ok (.iconst 5, 1) := by decide +kernel
theorem dX9_plans_32 : decode cX9_plans 32 = .ok (.iastore, 1) := by decide +kernel
theorem dX9_plans_33 : decode cX9_plans 33 = .ok (.aload_n 0, 1) := by decide +kernel
theorem dX9_plans_34 : decode cX9_plans 34 = .ok (.getfield 24, 3) := by decide +kernel
theorem dX9_plans_37 : decode cX9_plans 37 = .ok (.sipush 293, 3) := by decide +kernel
theorem dX9_plans_40 : decode cX9_plans 40 = .ok (.iconst 0, 1) := by decide +kernel
theorem dX9_plans_41 : decode cX9_plans 41 = .ok (.iastore, 1) := by decide +kernel
theorem dX9_plans_42 : decode cX9_plans 42 = .ok (.aload_n 0, 1) := by decide +kernel
theorem dX9_plans_43 : decode cX9_plans 43 = .ok (.iload_n 1, 1) := by decide +kernel
theorem dX9_plans_44 : decode cX9_plans 44 = .ok (.putfield 446, 3) := by decide +kernel
theorem dX9_plans_47 : decode cX9_plans 47 = .ok (.iconst 0, 1) := by decide +kernel
theorem dX9_plans_48 : decode cX9_plans 48 = .ok (.istore_n 3, 1) := by decide +kernel
theorem dX9_plans_49 : decode cX9_plans 49 = .ok (.iload_n 3, 1) := by decide +kernel
theorem dX9_plans_50 : decode cX9_plans 50 = .ok (.iload_n 1, 1) := by decide +kernel
theorem dX9_plans_51 : decode cX9_plans 51 = .ok (.if_icmp .ge 26, 3) := by decide +kernel
theorem dX9_plans_54 : decode cX9_plans 54 = .ok (.aload_n 0, 1) := by decide +kernel
theorem dX9_plans_55 : decode cX9_plans 55 = .ok (.getfield 39, 3) := by decide +kernel
theorem dX9_plans_58 : decode cX9_plans 58 = .ok (.iload_n 3, 1) := by decide +kernel
theorem dX9_plans_59 : decode cX9_plans 59 = .ok (.iload_n 2, 1) := by decide +kernel
theorem dX9_plans_60 : decode cX9_plans 60 = .ok (.iconst 2, 1) := by decide +kernel
theorem dX9_plans_61 : decode cX9_plans 61 = .ok (.iload_n 1, 1) := by decide +kernel
theorem dX9_plans_62 : decode cX9_plans 62 = .ok (.iconst 1, 1) := by decide +kernel
theorem dX9_plans_63 : decode cX9_plans 63 = .ok (.isub, 1) := by decide +kernel
theorem dX9_plans_64 : decode cX9_plans 64 = .ok (.iload_n 3, 1) := by decide +kernel
theorem dX9_plans_65 : decode cX9_plans 65 = .ok (.isub, 1) := by decide +kernel
theorem dX9_plans_66 : decode cX9_plans 66 = .ok (.imul, 1) := by decide +kernel
theorem dX9_plans_67 : decode cX9_plans 67 = .ok (.ishr, 1) := by decide +kernel
theorem dX9_plans_68 : decode cX9_plans 68 = .ok (.iconst 3, 1) := by decide +kernel
theorem dX9_plans_69 : decode cX9_plans 69 = .ok (.iand, 1) := by decide +kernel
theorem dX9_plans_70 : decode cX9_plans 70 = .ok (.iastore, 1) := by decide +kernel
theorem dX9_plans_71 : decode cX9_plans 71 = .ok (.iinc 3 1, 3) := by decide +kernel
theorem dX9_plans_74 : decode cX9_plans 74 = .ok (.goto (-25), 3) := by decide +kernel
theorem dX9_plans_77 : decode cX9_plans 77 = .ok (.iconst 0, 1) := by decide +kernel
theorem dX9_plans_78 : decode cX9_plans 78 = .ok (.istore_n 3, 1) := by decide +kernel
theorem dX9_plans_79 : decode cX9_plans 79 = .ok (.iload_n 3, 1) := by decide +kernel
theorem dX9_plans_80 : decode cX9_plans 80 = .ok (.iload_n 1, 1) := by decide +kernel
theorem dX9_plans_81 : decode cX9_plans 81 = .ok (.if_icmp .ge 18, 3) := by decide +kernel
theorem dX9_plans_84 : decode cX9_plans 84 = .ok (.aload_n 0, 1) := by decide +kernel
theorem dX9_plans_85 : decode cX9_plans 85 = .ok (.aload_n 0, 1) := by decide +kernel
theorem dX9_plans_86 : decode cX9_plans 86 = .ok (.getfield 24, 3) := by decide +kernel
theorem dX9_plans_89 : decode cX9_plans 89 = .ok (.iconst 0, 1) := by decide +kernel
theorem dX9_plans_90 : decode cX9_plans 90 = .ok (.invokevirtual 504, 3) := by decide +kernel
theorem dX9_plans_93 : decode cX9_plans 93 = .ok (.iinc 3 1, 3) := by decide +kernel
theorem dX9_plans_96 : decode cX9_plans 96 = .ok (.goto (-17), 3) := by decide +kernel
theorem dX9_plans_99 : decode cX9_plans 99 = .ok (.aload_n 0, 1) := by decide +kernel
theorem dX9_plans_100 : decode cX9_plans 100 = .ok (.getfield 24, 3) := by decide +kernel
theorem dX9_plans_103 : decode cX9_plans 103 = .ok (.sipush 289, 3) := by decide +kernel
theorem dX9_plans_106 : decode cX9_plans 106 = .ok (.iaload, 1) := by decide +kernel
theorem dX9_plans_107 : decode cX9_plans 107 = .ok (.aload_n 0, 1) := by decide +kernel
theorem dX9_plans_108 : decode cX9_plans 108 = .ok (.getfield 551, 3) := by decide +kernel
theorem dX9_plans_111 : decode cX9_plans 111 = .ok (.if_icmp .gt 6, 3) := by decide +kernel
theorem dX9_plans_114 : decode cX9_plans 114 = .ok (.goto 20, 3) := by decide +kernel
theorem dX9_plans_117 : decode cX9_plans 117 = .ok (.aload_n 0, 1) := by decide +kernel
theorem dX9_plans_118 : decode cX9_plans 118 = .ok (.aload_n 0, 1) := by decide +kernel
theorem dX9_plans_119 : decode cX9_plans 119 = .ok (.getfield 24, 3) := by decide +kernel
theorem dX9_plans_122 : decode cX9_plans 122 = .ok (.sipush 289, 3) := by decide +kernel
theorem dX9_plans_125 : decode cX9_plans 125 = .ok (.iaload, 1) := by decide +kernel
theorem dX9_plans_126 : decode cX9_plans 126 = .ok (.putfield 551, 3) := by decide +kernel
theorem dX9_plans_129 : decode cX9_plans 129 = .ok (.aload_n 0, 1) := by decide +kernel
theorem dX9_plans_130 : decode cX9_plans 130 = .ok (.iload_n 2, 1) := by decide +kernel
theorem dX9_plans_131 : decode cX9_plans 131 = .ok (.putfield 554, 3) := by decide +kernel
theorem dX9_plans_134 : decode cX9_plans 134 = .ok (.iinc 2 1, 3) := by decide +kernel
theorem dX9_plans_137 : decode cX9_plans 137 = .ok (.goto (-130), 3) := by decide +kernel
theorem dX9_plans_140 : decode cX9_plans 140 = .ok (.return_, 1) := by decide +kernel
theorem dX9_refusesPlan_0 : decode cX9_refusesPlan 0 = .ok (.aload_n 0, 1) := by decide +kernel
theorem dX9_refusesPlan_1 : decode cX9_refusesPlan 1 = .ok (.getfield 389, 3) := by decide +kernel
theorem dX9_refusesPlan_4 : decode cX9_refusesPlan 4 = .ok (.ifnonnull 7, 3) := by decide +kernel
theorem dX9_refusesPlan_7 : decode cX9_refusesPlan 7 = .ok (.iconst 1, 1) := by decide +kernel
theorem dX9_refusesPlan_8 : decode cX9_refusesPlan 8 = .ok (.goto 17, 3) := by decide +kernel
theorem dX9_refusesPlan_11 : decode cX9_refusesPlan 11 = .ok (.iload_n 1, 1) := by decide +kernel
theorem dX9_refusesPlan_12 : decode cX9_refusesPlan 12 = .ok (.iconst 1, 1) := by decide +kernel
theorem dX9_refusesPlan_13 : decode cX9_refusesPlan 13 = .ok (.iconst 5, 1) := by decide +kernel
theorem dX9_refusesPlan_14 : decode cX9_refusesPlan 14 = .ok (.invokestatic 135, 3) := by decide +kernel
theorem dX9_refusesPlan_17 : decode cX9_refusesPlan 17 = .ok (.ifCond .eq 7, 3) := by decide +kernel
theorem dX9_refusesPlan_20 : decode cX9_refusesPlan 20 = .ok (.iconst 0, 1) := by decide +kernel
theorem dX9_refusesPlan_21 : decode cX9_refusesPlan 21 = .ok (.goto 4, 3) := by decide +kernel
theorem dX9_refusesPlan_24 : decode cX9_refusesPlan 24 = .ok (.iconst 2, 1) := by decide +kernel
theorem dX9_refusesPlan_25 : decode cX9_refusesPlan 25 = .ok (.ireturn, 1) := by decide +kernel
theorem dX9_plan_0 : decode cX9_plan 0 = .ok (.aload_n 0, 1) := by decide +kernel
theorem dX9_plan_1 : decode cX9_plan 1 = .ok (.iconst 0, 1) := by decide +kernel
theorem dX9_plan_2 : decode cX9_plan 2 = .ok (.putfield 54, 3) := by decide +kernel
theorem dX9_plan_5 : decode cX9_plan 5 = .ok (.aload_n 0, 1) := by decide +kernel
theorem dX9_plan_6 : decode cX9_plan 6 = .ok (.iload_n 1, 1) := by decide +kernel
theorem dX9_plan_7 : decode cX9_plan 7 = .ok (.invokevirtual 557, 3) := by decide +kernel
theorem dX9_plan_10 : decode cX9_plan 10 = .ok (.istore_n 2, 1) := by decide +kernel
theorem dX9_plan_11 : decode cX9_plan 11 = .ok (.iload_n 2, 1) := by decide +kernel
theorem dX9_plan_12 : decode cX9_plan 12 = .ok (.ifCond .le 9, 3) := by decide +kernel
theorem dX9_plan_15 : decode cX9_plan 15 = .ok (.aload_n 0, 1) := by decide +kernel
theorem dX9_plan_16 : decode cX9_plan 16 = .ok (.iload_n 2, 1) := by decide +kernel
theorem dX9_plan_17 : decode cX9_plan 17 = .ok (.invokevirtual 60, 3) := by decide +kernel
theorem dX9_plan_20 : decode cX9_plan 20 = .ok (.ireturn, 1) := by decide +kernel
theorem dX9_plan_21 : decode cX9_plan 21 = .ok (.aload_n 0, 1) := by decide +kernel
theorem dX9_plan_22 : decode cX9_plan 22 = .ok (.iload_n 1, 1) := by decide +kernel
theorem dX9_plan_23 : decode cX9_plan 23 = .ok (.invokevirtual 560, 3) := by decide +kernel
theorem dX9_plan_26 : decode cX9_plan 26 = .ok (.aload_n 0, 1) := by decide +kernel
theorem dX9_plan_27 : decode cX9_plan 27 = .ok (.aload_n 0, 1) := by decide +kernel
theorem dX9_plan_28 : decode cX9_plan 28 = .ok (.getfield 551, 3) := by decide +kernel
theorem dX9_plan_31 : decode cX9_plan 31 = .ok (.invokevirtual 64, 3) := by decide +kernel
theorem dX9_plan_34 : decode cX9_plan 34 = .ok (.ireturn, 1) := by decide +kernel
theorem dX9_planAt_0 : decode cX9_planAt 0 = .ok (.aload_n 0, 1) := by decide +kernel
theorem dX9_planAt_1 : decode cX9_planAt 1 = .ok (.iconst 0, 1) := by decide +kernel
theorem dX9_planAt_2 : decode cX9_planAt 2 = .ok (.putfield 54, 3) := by decide +kernel
theorem dX9_planAt_5 : decode cX9_planAt 5 = .ok (.aload_n 0, 1) := by decide +kernel
theorem dX9_planAt_6 : decode cX9_planAt 6 = .ok (.iload_n 1, 1) := by decide +kernel
theorem dX9_planAt_7 : decode cX9_planAt 7 = .ok (.invokevirtual 557, 3) := by decide +kernel
theorem dX9_planAt_10 : decode cX9_planAt 10 = .ok (.istore_n 3, 1) := by decide +kernel
theorem dX9_planAt_11 : decode cX9_planAt 11 = .ok (.iload_n 3, 1) := by decide +kernel
theorem dX9_planAt_12 : decode cX9_planAt 12 = .ok (.ifCond .le 9, 3) := by decide +kernel
theorem dX9_planAt_15 : decode cX9_planAt 15 = .ok (.aload_n 0, 1) := by decide +kernel
theorem dX9_planAt_16 : decode cX9_planAt 16 = .ok (.iload_n 3, 1) := by decide +kernel
theorem dX9_planAt_17 : decode cX9_planAt 17 = .ok (.invokevirtual 60, 3) := by decide +kernel
theorem dX9_planAt_20 : decode cX9_planAt 20 = .ok (.ireturn, 1) := by decide +kernel
theorem dX9_planAt_21 : decode cX9_planAt 21 = .ok (.iload_n 2, 1) := by decide +kernel
theorem dX9_planAt_22 : decode cX9_planAt 22 = .ok (.ifCond .lt 8, 3) := by decide +kernel
theorem dX9_planAt_25 : decode cX9_planAt 25 = .ok (.iload_n 2, 1) := by decide +kernel
theorem dX9_planAt_26 : decode cX9_planAt 26 = .ok (.iload_n 1, 1) := by decide +kernel
theorem dX9_planAt_27 : decode cX9_planAt 27 = .ok (.if_icmp .lt 9, 3) := by decide +kernel
theorem dX9_planAt_30 : decode cX9_planAt 30 = .ok (.aload_n 0, 1) := by decide +kernel
theorem dX9_planAt_31 : decode cX9_planAt 31 = .ok (.iconst 1, 1) := by decide +kernel
theorem dX9_planAt_32 : decode cX9_planAt 32 = .ok (.invokevirtual 60, 3) := by decide +kernel
theorem dX9_planAt_35 : decode cX9_planAt 35 = .ok (.ireturn, 1) := by decide +kernel
theorem dX9_planAt_36 : decode cX9_planAt 36 = .ok (.aload_n 0, 1) := by decide +kernel
theorem dX9_planAt_37 : decode cX9_planAt 37 = .ok (.iload_n 1, 1) := by decide +kernel
theorem dX9_planAt_38 : decode cX9_planAt 38 = .ok (.invokevirtual 560, 3) := by decide +kernel
theorem dX9_planAt_41 : decode cX9_planAt 41 = .ok (.aload_n 0, 1) := by decide +kernel
theorem dX9_planAt_42 : decode cX9_planAt 42 = .ok (.aload_n 0, 1) := by decide +kernel
theorem dX9_planAt_43 : decode cX9_planAt 43 = .ok (.getfield 554, 3) := by decide +kernel
theorem dX9_planAt_46 : decode cX9_planAt 46 = .ok (.iconst 2, 1) := by decide +kernel
theorem dX9_planAt_47 : decode cX9_planAt 47 = .ok (.iload_n 1, 1) := by decide +kernel
theorem dX9_planAt_48 : decode cX9_planAt 48 = .ok (.iconst 1, 1) := by decide +kernel
theorem dX9_planAt_49 : decode cX9_planAt 49 = .ok (.isub, 1) := by decide +kernel
theorem dX9_planAt_50 : decode cX9_planAt 50 = .ok (.iload_n 2, 1) := by decide +kernel
theorem dX9_planAt_51 : decode cX9_planAt 51 = .ok (.isub, 1) := by decide +kernel
theorem dX9_planAt_52 : decode cX9_planAt 52 = .ok (.imul, 1) := by decide +kernel
theorem dX9_planAt_53 : decode cX9_planAt 53 = .ok (.ishr, 1) := by decide +kernel
theorem dX9_planAt_54 : decode cX9_planAt 54 = .ok (.iconst 3, 1) := by decide +kernel
theorem dX9_planAt_55 : decode cX9_planAt 55 = .ok (.iand, 1) := by decide +kernel
theorem dX9_planAt_56 : decode cX9_planAt 56 = .ok (.invokevirtual 64, 3) := by decide +kernel
theorem dX9_planAt_59 : decode cX9_planAt 59 = .ok (.ireturn, 1) := by decide +kernel
theorem dX9_mean_0 : decode cX9_mean 0 = .ok (.aload_n 0, 1) := by decide +kernel
theorem dX9_mean_1 : decode cX9_mean 1 = .ok (.iconst 0, 1) := by decide +kernel
theorem dX9_mean_2 : decode cX9_mean 2 = .ok (.putfield 54, 3) := by decide +kernel
theorem dX9_mean_5 : decode cX9_mean 5 = .ok (.aload_n 0, 1) := by decide +kernel
theorem dX9_mean_6 : decode cX9_mean 6 = .ok (.getfield 389, 3) := by decide +kernel
theorem dX9_mean_9 : decode cX9_mean 9 = .ok (.ifnonnull 9, 3) := by decide +kernel
theorem dX9_mean_12 : decode cX9_mean 12 = .ok (.aload_n 0, 1) := by decide +kernel
theorem dX9_mean_13 : decode cX9_mean 13 = .ok (.iconst 1, 1) := by decide +kernel
theorem dX9_mean_14 : decode cX9_mean 14 = .ok (.invokevirtual 60, 3) := by decide +kernel
theorem dX9_mean_17 : decode cX9_mean 17 = .ok (.ireturn, 1) := by decide +kernel
theorem dX9_mean_18 : decode cX9_mean 18 = .ok (.iload_n 1, 1) := by decide +kernel
theorem dX9_mean_19 : decode cX9_mean 19 = .ok (.iconst 0, 1) := by decide +kernel
theorem dX9_mean_20 : decode cX9_mean 20 = .ok (.ldc_w 563, 3) := by decide +kernel
theorem dX9_mean_23 : decode cX9_mean 23 = .ok (.invokestatic 135, 3) := by decide +kernel
theorem dX9_mean_26 : decode cX9_mean 26 = .ok (.ifCond .eq 23, 3) := by decide +kernel
theorem dX9_mean_29 : decode cX9_mean 29 = .ok (.iload_n 2, 1) := by decide +kernel
theorem dX9_mean_30 : decode cX9_mean 30 = .ok (.iconst 1, 1) := by decide +kernel
theorem dX9_mean_31 : decode cX9_mean 31 = .ok (.bipush 20, 2) := by decide +kernel
theorem dX9_mean_33 : decode cX9_mean 33 = .ok (.invokestatic 135, 3) := by decide +kernel
theorem dX9_mean_36 : decode cX9_mean 36 = .ok (.ifCond .eq 13, 3) := by decide +kernel
theorem dX9_mean_39 : decode cX9_mean 39 = .ok (.iload_n 3, 1) := by decide +kernel
theorem dX9_mean_40 : decode cX9_mean 40 = .ok (.iconst 0, 1) := by decide +kernel
theorem dX9_mean_41 : decode cX9_mean 41 = .ok (.bipush 40, 2) := by decide +kernel
theorem dX9_mean_43 : decode cX9_mean 43 = .ok (.invokestatic 135, 3) := by decide +kernel
theorem dX9_mean_46 : decode cX9_mean 46 = .ok (.ifCond .ne 9, 3) := by decide +kernel
theorem dX9_mean_49 : decode cX9_mean 49 = .ok (.aload_n 0, 1) := by decide +kernel
theorem dX9_mean_50 : decode cX9_mean 50 = .ok (.iconst 2, 1) := by decide +kernel
theorem dX9_mean_51 : decode cX9_mean 51 = .ok (.invokevirtual 60, 3) := by decide +kernel
theorem dX9_mean_54 : decode cX9_mean 54 = .ok (.ireturn, 1) := by decide +kernel
theorem dX9_mean_55 : decode cX9_mean 55 = .ok (.iconst 0, 1) := by decide +kernel
theorem dX9_mean_56 : decode cX9_mean 56 = .ok (.istore 4, 2) := by decide +kernel
theorem dX9_mean_58 : decode cX9_mean 58 = .ok (.iconst 0, 1) := by decide +kernel
theorem dX9_mean_59 : decode cX9_mean 59 = .ok (.istore 5, 2) := by decide +kernel
theorem dX9_mean_61 : decode cX9_mean 61 = .ok (.iload 5, 2) := by decide +kernel
theorem dX9_mean_63 : decode cX9_mean 63 = .ok (.iload_n 2, 1) := by decide +kernel
theorem dX9_mean_64 : decode cX9_mean 64 = .ok (.if_icmp .ge 70, 3) := by decide +kernel
theorem dX9_mean_67 : decode cX9_mean 67 = .ok (.aload_n 0, 1) := by decide +kernel
theorem dX9_mean_68 : decode cX9_mean 68 = .ok (.invokevirtual 498, 3) := by decide +kernel
theorem dX9_mean_71 : decode cX9_mean 71 = .ok (.aload_n 0, 1) := by decide +kernel
theorem dX9_mean_72 : decode cX9_mean 72 = .ok (.invokevirtual 501, 3) := by decide +kernel
theorem dX9_mean_75 : decode cX9_mean 75 = .ok (.aload_n 0, 1) := by decide +kernel
theorem dX9_mean_76 : decode cX9_mean 76 = .ok (.getfield 24, 3) := by decide +kernel
theorem dX9_mean_79 : decode cX9_mean 79 = .ok (.sipush 295, 3) := by decide +kernel
theorem dX9_mean_82 : decode cX9_mean 82 = .ok (.iload_n 1, 1) := by decide +kernel
theorem dX9_mean_83 : decode cX9_mean 83 = .ok (.iload 5, 2) := by decide +kernel
theorem dX9_mean_85 : decode cX9_mean 85 = .ok (.iadd, 1) := by decide +kernel
theorem dX9_mean_86 : decode cX9_mean 86 = .ok (.ldc_w 564, 3) := by decide +kernel
theorem dX9_mean_89 : decode cX9_mean 89 = .ok (.irem, 1) := by decide +kernel
theorem dX9_mean_90 : decode cX9_mean 90 = .ok (.iastore, 1) := by decide +kernel
theorem dX9_mean_91 : decode cX9_mean 91 = .ok (.iconst 0, 1) := by decide +kernel
theorem dX9_mean_92 : decode cX9_mean 92 = .ok (.istore 6, 2) := by decide +kernel
theorem dX9_mean_94 : decode cX9_mean 94 = .ok (.iload 6, 2) := by decide +kernel
theorem dX9_mean_96 : decode cX9_mean 96 = .ok (.iload_n 3, 1) := by decide +kernel
theorem dX9_mean_97 : decode cX9_mean 97 = .ok (.if_icmp .ge 18, 3) := by decide +kernel
theorem dX9_mean_100 : decode cX9_mean 100 = .ok (.aload_n 0, 1) := by decide +kernel
theorem dX9_mean_101 : decode cX9_mean 101 = .ok (.aload_n 0, 1) := by decide +kernel
theorem dX9_mean_102 : decode cX9_mean 102 = .ok (.getfield 24, 3) := by decide +kernel
theorem dX9_mean_105 : decode cX9_mean 105 = .ok (.iconst 0, 1) := by decide +kernel
theorem dX9_mean_106 : decode cX9_mean 106 = .ok (.invokevirtual 504, 3) := by decide +kernel
theorem dX9_mean_109 : decode cX9_mean 109 = .ok (.iinc 6 1, 3) := by decide +kernel
theorem dX9_mean_112 : decode cX9_mean 112 = .ok (.goto (-18), 3) := by decide +kernel
theorem dX9_mean_115 : decode cX9_mean 115 = .ok (.iload 4, 2) := by decide +kernel
theorem dX9_mean_117 : decode cX9_mean 117 = .ok (.aload_n 0, 1) := by decide +kernel
theorem dX9_mean_118 : decode cX9_mean 118 = .ok (.getfield 24, 3) := by decide +kernel
theorem dX9_mean_121 : decode cX9_mean 121 = .ok (.sipush 289, 3) := by decide +kernel
theorem dX9_mean_124 : decode cX9_mean 124 = .ok (.iaload, 1) := by decide +kernel
theorem dX9_mean_125 : decode cX9_mean 125 = .ok (.iadd, 1) := by decide +kernel
theorem dX9_mean_126 : decode cX9_mean 126 = .ok (.istore 4, 2) := by decide +kernel
theorem dX9_mean_128 : decode cX9_mean 128 = .ok (.iinc 5 1, 3) := by decide +kernel
theorem dX9_mean_131 : decode cX9_mean 131 = .ok (.goto (-70), 3) := by decide +kernel
theorem dX9_mean_134 : decode cX9_mean 134 = .ok (.aload_n 0, 1) := by decide +kernel
theorem dX9_mean_135 : decode cX9_mean 135 = .ok (.iload 4, 2) := by decide +kernel
theorem dX9_mean_137 : decode cX9_mean 137 = .ok (.invokevirtual 64, 3) := by decide +kernel
theorem dX9_mean_140 : decode cX9_mean 140 = .ok (.ireturn, 1) := by decide +kernel
theorem dX9_lateAt_0 : decode cX9_lateAt 0 = .ok (.aload_n 0, 1) := by decide +kernel
theorem dX9_lateAt_1 : decode cX9_lateAt 1 = .ok (.getfield 389, 3) := by decide +kernel
theorem dX9_lateAt_4 : decode cX9_lateAt 4 = .ok (.iload_n 1, 1) := by decide +kernel
theorem dX9_lateAt_5 : decode cX9_lateAt 5 = .ok (.iload_n 2, 1) := by decide +kernel
theorem dX9_lateAt_6 : decode cX9_lateAt 6 = .ok (.invokevirtual 565, 3) := by decide +kernel
theorem dX9_lateAt_9 : decode cX9_lateAt 9 = .ok (.aload_n 0, 1) := by decide +kernel
theorem dX9_lateAt_10 : decode cX9_lateAt 10 = .ok (.getfield 389, 3) := by decide +kernel
theorem dX9_lateAt_13 : decode cX9_lateAt 13 = .ok (.getfield 285, 3) := by decide +kernel
theorem dX9_lateAt_16 : decode cX9_lateAt 16 = .ok (.idiv, 1) := by decide +kernel
theorem dX9_lateAt_17 : decode cX9_lateAt 17 = .ok (.ireturn, 1) := by decide +kernel
theorem dX9_late_0 : decode cX9_late 0 = .ok (.aload_n 0, 1) := by decide +kernel
theorem dX9_late_1 : decode cX9_late 1 = .ok (.iconst 0, 1) := by decide +kernel
theorem dX9_late_2 : decode cX9_late 2 = .ok (.putfield 54, 3) := by decide +kernel
theorem dX9_late_5 : decode cX9_late 5 = .ok (.aload_n 0, 1) := by decide +kernel
theorem dX9_late_6 : decode cX9_late 6 = .ok (.iload_n 1, 1) := by decide +kernel
theorem dX9_late_7 : decode cX9_late 7 = .ok (.iload_n 2, 1) := by decide +kernel
theorem dX9_late_8 : decode cX9_late 8 = .ok (.invokevirtual 508, 3) := by decide +kernel
theorem dX9_late_11 : decode cX9_late 11 = .ok (.ifCond .eq 46, 3) := by decide +kernel
theorem dX9_late_14 : decode cX9_late 14 = .ok (.aload_n 0, 1) := by decide +kernel
theorem dX9_late_15 : decode cX9_late 15 = .ok (.getfield 21, 3) := by decide +kernel
theorem dX9_late_18 : decode cX9_late 18 = .ok (.sipush 296, 3) := by decide +kernel
theorem dX9_late_21 : decode cX9_late 21 = .ok (.iaload, 1) := by decide +kernel
theorem dX9_late_22 : decode cX9_late 22 = .ok (.bipush (-2), 2) := by decide +kernel
theorem dX9_late_24 : decode cX9_late 24 = .ok (.if_icmp .eq 33, 3) := by decide +kernel
theorem dX9_late_27 : decode cX9_late 27 = .ok (.aload_n 0, 1) := by decide +kernel
theorem dX9_late_28 : decode cX9_late 28 = .ok (.aload_n 0, 1) := by decide +kernel
theorem dX9_late_29 : decode cX9_late 29 = .ok (.aload_n 0, 1) := by decide +kernel
theorem dX9_late_30 : decode cX9_late 30 = .ok (.getfield 389, 3) := by decide +kernel
theorem dX9_late_33 : decode cX9_late 33 = .ok (.getfield 154, 3) := by decide +kernel
theorem dX9_late_36 : decode cX9_late 36 = .ok (.iload_n 2, 1) := by decide +kernel
theorem dX9_late_37 : decode cX9_late 37 = .ok (.imul, 1) := by decide +kernel
theorem dX9_late_38 : decode cX9_late 38 = .ok (.iload_n 1, 1) := by decide +kernel
theorem dX9_late_39 : decode cX9_late 39 = .ok (.iadd, 1) := by decide +kernel
theorem dX9_late_40 : decode cX9_late 40 = .ok (.aload_n 0, 1) := by decide +kernel
theorem dX9_late_41 : decode cX9_late 41 = .ok (.getfield 21, 3) := by decide +kernel
theorem dX9_late_44 : decode cX9_late 44 = .ok (.sipush 296, 3) := by decide +kernel
theorem dX9_late_47 : decode cX9_late 47 = .ok (.iaload, 1) := by decide +kernel
theorem dX9_late_48 : decode cX9_late 48 = .ok (.invokevirtual 567, 3) := by decide +kernel
theorem dX9_late_51 : decode cX9_late 51 = .ok (.invokevirtual 64, 3) := by decide +kernel
theorem dX9_late_54 : decode cX9_late 54 = .ok (.goto 8, 3) := by decide +kernel
theorem dX9_late_57 : decode cX9_late 57 = .ok (.aload_n 0, 1) := by decide +kernel
theorem dX9_late_58 : decode cX9_late 58 = .ok (.iconst 1, 1) := by decide +kernel
theorem dX9_late_59 : decode cX9_late 59 = .ok (.invokevirtual 60, 3) := by decide +kernel
theorem dX9_late_62 : decode cX9_late 62 = .ok (.ireturn, 1) := by decide +kernel
theorem dX9_kicks_0 : decode cX9_kicks 0 = .ok (.aload_n 0, 1) := by decide +kernel
theorem dX9_kicks_1 : decode cX9_kicks 1 = .ok (.iconst 0, 1) := by decide +kernel
theorem dX9_kicks_2 : decode cX9_kicks 2 = .ok (.putfield 54, 3) := by decide +kernel
theorem dX9_kicks_5 : decode cX9_kicks 5 = .ok (.aload_n 0, 1) := by decide +kernel
theorem dX9_kicks_6 : decode cX9_kicks 6 = .ok (.getfield 389, 3) := by decide +kernel
theorem dX9_kicks_9 : decode cX9_kicks 9 = .ok (.ifnonnull 11, 3) := by decide +kernel
theorem dX9_kicks_12 : decode cX9_kicks 12 = .ok (.aload_n 0, 1) := by decide +kernel
theorem dX9_kicks_13 : decode cX9_kicks 13 = .ok (.iconst 1, 1) := by decide +kernel
theorem dX9_kicks_14 : decode cX9_kicks 14 = .ok (.invokevirtual 60, 3) := by decide +kernel
theorem dX9_kicks_17 : decode cX9_kicks 17 = .ok (.goto 39, 3) := by decide +kernel
theorem dX9_kicks_20 : decode cX9_kicks 20 = .ok (.aload_n 0, 1) := by decide +kernel
theorem dX9_kicks_21 : decode cX9_kicks 21 = .ok (.aload_n 0, 1) := by decide +kernel
theorem dX9_kicks_22 : decode cX9_kicks 22 = .ok (.getfield 389, 3) := by decide +kernel
theorem dX9_kicks_25 : decode cX9_kicks 25 = .ok (.getfield 289, 3) := by decide +kernel
theorem dX9_kicks_28 : decode cX9_kicks 28 = .ok (.aload_n 0, 1) := by decide +kernel
theorem dX9_kicks_29 : decode cX9_kicks 29 = .ok (.getfield 21, 3) := by decide +kernel
theorem dX9_kicks_32 : decode cX9_kicks 32 = .ok (.sipush 294, 3) := by decide +kernel
theorem dX9_kicks_35 : decode cX9_kicks 35 = .ok (.iaload, 1) := by decide +kernel
theorem dX9_kicks_36 : decode cX9_kicks 36 = .ok (.aload_n 0, 1) := by decide +kernel
theorem dX9_kicks_37 : decode cX9_kicks 37 = .ok (.getfield 389, 3) := by decide +kernel
theorem dX9_kicks_40 : decode cX9_kicks 40 = .ok (.getfield 206, 3) := by decide +kernel
theorem dX9_kicks_43 : decode cX9_kicks 43 = .ok (.irem, 1) := by decide +kernel
theorem dX9_kicks_44 : decode cX9_kicks 44 = .ok (.iaload, 1) := by decide +kernel
theorem dX9_kicks_45 : decode cX9_kicks 45 = .ok (.ifCond .ne 7, 3) := by decide +kernel
theorem dX9_kicks_48 : decode cX9_kicks 48 = .ok (.iconst 1, 1) := by decide +kernel
theorem dX9_kicks_49 : decode cX9_kicks 49 = .ok (.goto 4, 3) := by decide +kernel
theorem dX9_kicks_52 : decode cX9_kicks 52 = .ok (.iconst 0, 1) := by decide +kernel
theorem dX9_kicks_53 : decode cX9_kicks 53 = .ok (.invokevirtual 64, 3) := by decide +kernel
theorem dX9_kicks_56 : decode cX9_kicks 56 = .ok (.ireturn, 1) := by decide +kernel
theorem dX9_inTimeBy_0 : decode cX9_inTimeBy 0 = .ok (.iconst 0, 1) := by decide +kernel
theorem dX9_inTimeBy_1 : decode cX9_inTimeBy 1 = .ok (.istore_n 2, 1) := by decide +kernel
theorem dX9_inTimeBy_2 : decode cX9_inTimeBy 2 = .ok (.iconst 0, 1) := by decide +kernel
theorem dX9_inTimeBy_3 : decode cX9_inTimeBy 3 = .ok (.istore_n 3, 1) := by decide +kernel
theorem dX9_inTimeBy_4 : decode cX9_inTimeBy 4 = .ok (.iload_n 3, 1) := by decide +kernel
theorem dX9_inTimeBy_5 : decode cX9_inTimeBy 5 = .ok (.aload_n 0, 1) := by decide +kernel
theorem dX9_inTimeBy_6 : decode cX9_inTimeBy 6 = .ok (.getfield 21, 3) := by decide +kernel
theorem dX9_inTimeBy_9 : decode cX9_inTimeBy 9 = .ok (.sipush 289, 3) := by decide +kernel
theorem dX9_inTimeBy_12 : decode cX9_inTimeBy 12 = .ok (.iaload, 1) := by decide +kernel
theorem dX9_inTimeBy_13 : decode cX9_inTimeBy 13 = .ok (.if_icmp .ge 41, 3) := by decide +kernel
theorem dX9_inTimeBy_16 : decode cX9_inTimeBy 16 = .ok (.iload_n 2, 1) := by decide +kernel
theorem dX9_inTimeBy_17 : decode cX9_inTimeBy 17 = .ok (.aload_n 0, 1) := by decide +kernel
theorem dX9_inTimeBy_18 : decode cX9_inTimeBy 18 = .ok (.aload_n 0, 1) := by decide +kernel
theorem dX9_inTimeBy_19 : decode cX9_inTimeBy 19 = .ok (.getfield 21, 3) := by decide +kernel
theorem dX9_inTimeBy_22 : decode cX9_inTimeBy 22 = .ok (.iload_n 3, 1) := by decide +kernel
theorem dX9_inTimeBy_23 : decode cX9_inTimeBy 23 = .ok (.invokestatic 409, 3) := by decide +kernel
theorem dX9_inTimeBy_26 : decode cX9_inTimeBy 26 = .ok (.iload_n 1, 1) := by decide +kernel
theorem dX9_inTimeBy_27 : decode cX9_inTimeBy 27 = .ok (.invokevirtual 567, 3) := by decide +kernel
theorem dX9_inTimeBy_30 : decode cX9_inTimeBy 30 = .ok (.aload_n 0, 1) := by decide +kernel
theorem dX9_inTimeBy_31 : decode cX9_inTimeBy 31 = .ok (.getfield 389, 3) := by decide +kernel
theorem dX9_inTimeBy_34 : decode cX9_inTimeBy 34 = .ok (.getfield 206, 3) := by decide +kernel
theorem dX9_inTimeBy_37 : decode cX9_inTimeBy 37 = .ok (.irem, 1) := by decide +kernel
theorem dX9_inTimeBy_38 : decode cX9_inTimeBy 38 = .ok (.ifCond .ne 7, 3) := by decide +kernel
theorem dX9_inTimeBy_41 : decode cX9_inTimeBy 41 = .ok (.iconst 1, 1) := by decide +kernel
theorem dX9_inTimeBy_42 : decode cX9_inTimeBy 42 = .ok (.goto 4, 3) := by decide +kernel
theorem dX9_inTimeBy_45 : decode cX9_inTimeBy 45 = .ok (.iconst 0, 1) := by decide +kernel
theorem dX9_inTimeBy_46 : decode cX9_inTimeBy 46 = .ok (.iadd, 1) := by decide +kernel
theorem dX9_inTimeBy_47 : decode cX9_inTimeBy 47 = .ok (.istore_n 2, 1) := by decide +kernel
theorem dX9_inTimeBy_48 : decode cX9_inTimeBy 48 = .ok (.iinc 3 1, 3) := by decide +kernel
theorem dX9_inTimeBy_51 : decode cX9_inTimeBy 51 = .ok (.goto (-47), 3) := by decide +kernel
theorem dX9_inTimeBy_54 : decode cX9_inTimeBy 54 = .ok (.iload_n 2, 1) := by decide +kernel
theorem dX9_inTimeBy_55 : decode cX9_inTimeBy 55 = .ok (.ireturn, 1) := by decide +kernel
theorem dX9_refusesBand_0 : decode cX9_refusesBand 0 = .ok (.aload_n 0, 1) := by decide +kernel
theorem dX9_refusesBand_1 : decode cX9_refusesBand 1 = .ok (.getfield 389, 3) := by decide +kernel
theorem dX9_refusesBand_4 : decode cX9_refusesBand 4 = .ok (.ifnonnull 7, 3) := by decide +kernel
theorem dX9_refusesBand_7 : decode cX9_refusesBand 7 = .ok (.iconst 1, 1) := by decide +kernel
theorem dX9_refusesBand_8 : decode cX9_refusesBand 8 = .ok (.goto 22, 3) := by decide +kernel
theorem dX9_refusesBand_11 : decode cX9_refusesBand 11 = .ok (.aload_n 0, 1) := by decide +kernel
theorem dX9_refusesBand_12 : decode cX9_refusesBand 12 = .ok (.getfield 21, 3) := by decide +kernel
theorem dX9_refusesBand_15 : decode cX9_refusesBand 15 = .ok (.sipush 296, 3) := by decide +kernel
theorem dX9_refusesBand_18 : decode cX9_refusesBand 18 = .ok (.iaload, 1) := by decide +kernel
theorem dX9_refusesBand_19 : decode cX9_refusesBand 19 = .ok (.bipush (-2), 2) := by decide +kernel
theorem dX9_refusesBand_21 : decode cX9_refusesBand 21 = .ok (.if_icmp .ne 8, 3) := by decide +kernel
theorem dX9_refusesBand_24 : decode cX9_refusesBand 24 = .ok (.bipush 6, 2) := by decide +kernel
theorem dX9_refusesBand_26 : decode cX9_refusesBand 26 = .ok (.goto 4, 3) := by decide +kernel
theorem dX9_refusesBand_29 : decode cX9_refusesBand 29 = .ok (.iconst 0, 1) := by decide +kernel
theorem dX9_refusesBand_30 : decode cX9_refusesBand 30 = .ok (.ireturn, 1) := by decide +kernel
theorem dX9_inTime_0 : decode cX9_inTime 0 = .ok (.aload_n 0, 1) := by decide +kernel
theorem dX9_inTime_1 : decode cX9_inTime 1 = .ok (.iconst 0, 1) := by decide +kernel
theorem dX9_inTime_2 : decode cX9_inTime 2 = .ok (.putfield 54, 3) := by decide +kernel
theorem dX9_inTime_5 : decode cX9_inTime 5 = .ok (.aload_n 0, 1) := by decide +kernel
theorem dX9_inTime_6 : decode cX9_inTime 6 = .ok (.invokevirtual 570, 3) := by decide +kernel
theorem dX9_inTime_9 : decode cX9_inTime 9 = .ok (.istore_n 1, 1) := by decide +kernel
theorem dX9_inTime_10 : decode cX9_inTime 10 = .ok (.iload_n 1, 1) := by decide +kernel
theorem dX9_inTime_11 : decode cX9_inTime 11 = .ok (.ifCond .le 11, 3) := by decide +kernel
theorem dX9_inTime_14 : decode cX9_inTime 14 = .ok (.aload_n 0, 1) := by decide +kernel
theorem dX9_inTime_15 : decode cX9_inTime 15 = .ok (.iload_n 1, 1) := by decide +kernel
theorem dX9_inTime_16 : decode cX9_inTime 16 = .ok (.invokevirtual 60, 3) := by decide +kernel
theorem dX9_inTime_19 : decode cX9_inTime 19 = .ok (.goto 19, 3) := by decide +kernel
theorem dX9_inTime_22 : decode cX9_inTime 22 = .ok (.aload_n 0, 1) := by decide +kernel
theorem dX9_inTime_23 : decode cX9_inTime 23 = .ok (.aload_n 0, 1) := by decide +kernel
theorem dX9_inTime_24 : decode cX9_inTime 24 = .ok (.aload_n 0, 1) := by decide +kernel
theorem dX9_inTime_25 : decode cX9_inTime 25 = .ok (.getfield 21, 3) := by decide +kernel
theorem dX9_inTime_28 : decode cX9_inTime 28 = .ok (.sipush 296, 3) := by decide +kernel
theorem dX9_inTime_31 : decode cX9_inTime 31 = .ok (.iaload, 1) := by decide +kernel
theorem dX9_inTime_32 : decode cX9_inTime 32 = .ok (.invokevirtual 573, 3) := by decide +kernel
theorem dX9_inTime_35 : decode cX9_inTime 35 = .ok (.invokevirtual 64, 3) := by decide +kernel
theorem dX9_inTime_38 : decode cX9_inTime 38 = .ok (.ireturn, 1) := by decide +kernel
theorem dX9_bestBand_0 : decode cX9_bestBand 0 = .ok (.aload_n 0, 1) := by decide +kernel
theorem dX9_bestBand_1 : decode cX9_bestBand 1 = .ok (.iconst 0, 1) := by decide +kernel
theorem dX9_bestBand_2 : decode cX9_bestBand 2 = .ok (.putfield 54, 3) := by decide +kernel
theorem dX9_bestBand_5 : decode cX9_bestBand 5 = .ok (.aload_n 0, 1) := by decide +kernel
theorem dX9_bestBand_6 : decode cX9_bestBand 6 = .ok (.invokevirtual 570, 3) := by decide +kernel
theorem dX9_bestBand_9 : decode cX9_bestBand 9 = .ok (.istore_n 1, 1) := by decide +kernel
theorem dX9_bestBand_10 : decode cX9_bestBand 10 = .ok (.iload_n 1, 1) := by decide +kernel
theorem dX9_bestBand_11 : decode cX9_bestBand 11 = .ok (.ifCond .le 9, 3) := by decide +kernel
theorem dX9_bestBand_14 : decode cX9_bestBand 14 = .ok (.aload_n 0, 1) := by decide +kernel
theorem dX9_bestBand_15 : decode cX9_bestBand 15 = .ok (.iload_n 1, 1) := by decide +kernel
theorem dX9_bestBand_16 : decode cX9_bestBand 16 = .ok (.invokevirtual 60, 3) := by decide +kernel
theorem dX9_bestBand_19 : decode cX9_bestBand 19 = .ok (.ireturn, 1) := by decide +kernel
theorem dX9_bestBand_20 : decode cX9_bestBand 20 = .ok (.iconst (-1), 1) := by decide +kernel
theorem dX9_bestBand_21 : decode cX9_bestBand 21 = .ok (.istore_n 2, 1) := by decide +kernel
theorem dX9_bestBand_22 : decode cX9_bestBand 22 = .ok (.iconst 0, 1) := by decide +kernel
theorem dX9_bestBand_23 : decode cX9_bestBand 23 = .ok (.istore_n 3, 1) := by decide +kernel
theorem dX9_bestBand_24 : decode cX9_bestBand 24 = .ok (.iload_n 3, 1) := by decide +kernel
theorem dX9_bestBand_25 : decode cX9_bestBand 25 = .ok (.aload_n 0, 1) := by decide +kernel
theorem dX9_bestBand_26 : decode cX9_bestBand 26 = .ok (.getfield 389, 3) := by decide +kernel
theorem dX9_bestBand_29 : decode cX9_bestBand 29 = .ok (.invokevirtual 576, 3) := by decide +kernel
theorem dX9_bestBand_32 : decode cX9_bestBand 32 = .ok (.if_icmp .ge 42, 3) := by decide +kernel
theorem dX9_bestBand_35 : decode cX9_bestBand 35 = .ok (.aload_n 0, 1) := by decide +kernel
theorem dX9_bestBand_36 : decode cX9_bestBand 36 = .ok (.getfield 389, 3) := by decide +kernel
theorem dX9_bestBand_39 : decode cX9_bestBand 39 = .ok (.getfield 275, 3) := by decide +kernel
theorem dX9_bestBand_42 : decode cX9_bestBand 42 = .ok (.iload_n 3, 1) := by decide +kernel
theorem dX9_bestBand_43 : decode cX9_bestBand 43 = .ok (.iaload, 1) := by decide +kernel
theorem dX9_bestBand_44 : decode cX9_bestBand 44 = .ok (.iconst 2, 1) := by decide +kernel
theorem dX9_bestBand_45 : decode cX9_bestBand 45 = .ok (.if_icmp .eq 23, 3) := by decide +kernel
theorem dX9_bestBand_48 : decode cX9_bestBand 48 = .ok (.iload_n 2, 1) := by decide +kernel
theorem dX9_bestBand_49 : decode cX9_bestBand 49 = .ok (.iconst (-1), 1) := by decide +kernel
theorem dX9_bestBand_50 : decode cX9_bestBand 50 = .ok (.if_icmp .eq 16, 3) := by decide +kernel
theorem dX9_bestBand_53 : decode cX9_bestBand 53 = .ok (.aload_n 0, 1) := by decide +kernel
theorem dX9_bestBand_54 : decode cX9_bestBand 54 = .ok (.iload_n 3, 1) := by decide +kernel
theorem dX9_bestBand_55 : decode cX9_bestBand 55 = .ok (.invokevirtual 573, 3) := by decide +kernel
theorem dX9_bestBand_58 : decode cX9_bestBand 58 = .ok (.aload_n 0, 1) := by decide +kernel
theorem dX9_bestBand_59 : decode cX9_bestBand 59 = .ok (.iload_n 2, 1) := by decide +kernel
theorem dX9_bestBand_60 : decode cX9_bestBand 60 = .ok (.invokevirtual 573, 3) := by decide +kernel
theorem dX9_bestBand_63 : decode cX9_bestBand 63 = .ok (.if_icmp .le 5, 3) := by decide +kernel
theorem dX9_bestBand_66 : decode cX9_bestBand 66 = .ok (.iload_n 3, 1) := by decide +kernel
theorem dX9_bestBand_67 : decode cX9_bestBand 67 = .ok (.istore_n 2, 1) := by decide +kernel
theorem dX9_bestBand_68 : decode cX9_bestBand 68 = .ok (.iinc 3 1, 3) := by decide +kernel
theorem dX9_bestBand_71 : decode cX9_bestBand 71 = .ok (.goto (-47), 3) := by decide +kernel
theorem dX9_bestBand_74 : decode cX9_bestBand 74 = .ok (.aload_n 0, 1) := by decide +kernel
theorem dX9_bestBand_75 : decode cX9_bestBand 75 = .ok (.iload_n 2, 1) := by decide +kernel
theorem dX9_bestBand_76 : decode cX9_bestBand 76 = .ok (.invokevirtual 64, 3) := by decide +kernel
theorem dX9_bestBand_79 : decode cX9_bestBand 79 = .ok (.ireturn, 1) := by decide +kernel
theorem dX9_out_0 : decode cX9_out 0 = .ok (.aload_n 0, 1) := by decide +kernel
theorem dX9_out_1 : decode cX9_out 1 = .ok (.iconst 0, 1) := by decide +kernel
theorem dX9_out_2 : decode cX9_out 2 = .ok (.putfield 54, 3) := by decide +kernel
theorem dX9_out_5 : decode cX9_out 5 = .ok (.aload_n 0, 1) := by decide +kernel
theorem dX9_out_6 : decode cX9_out 6 = .ok (.getfield 389, 3) := by decide +kernel
theorem dX9_out_9 : decode cX9_out 9 = .ok (.ifnonnull 9, 3) := by decide +kernel
theorem dX9_out_12 : decode cX9_out 12 = .ok (.aload_n 0, 1) := by decide +kernel
theorem dX9_out_13 : decode cX9_out 13 = .ok (.iconst 1, 1) := by decide +kernel
theorem dX9_out_14 : decode cX9_out 14 = .ok (.invokevirtual 60, 3) := by decide +kernel
theorem dX9_out_17 : decode cX9_out 17 = .ok (.ireturn, 1) := by decide +kernel
theorem dX9_out_18 : decode cX9_out 18 = .ok (.aload_n 0, 1) := by decide +kernel
theorem dX9_out_19 : decode cX9_out 19 = .ok (.getfield 389, 3) := by decide +kernel
theorem dX9_out_22 : decode cX9_out 22 = .ok (.getfield 287, 3) := by decide +kernel
theorem dX9_out_25 : decode cX9_out 25 = .ok (.bipush (-2), 2) := by decide +kernel
theorem dX9_out_27 : decode cX9_out 27 = .ok (.if_icmp .ne 10, 3) := by decide +kernel
theorem dX9_out_30 : decode cX9_out 30 = .ok (.aload_n 0, 1) := by decide +kernel
theorem dX9_out_31 : decode cX9_out 31 = .ok (.bipush 6, 2) := by decide +kernel
theorem dX9_out_33 : decode cX9_out 33 = .ok (.invokevirtual 60, 3) := by decide +kernel
theorem dX9_out_36 : decode cX9_out 36 = .ok (.ireturn, 1) := by decide +kernel
theorem dX9_out_37 : decode cX9_out 37 = .ok (.aload_n 0, 1) := by decide +kernel
theorem dX9_out_38 : decode cX9_out 38 = .ok (.aload_n 0, 1) := by decide +kernel
theorem dX9_out_39 : decode cX9_out 39 = .ok (.getfield 21, 3) := by decide +kernel
theorem dX9_out_42 : decode cX9_out 42 = .ok (.iconst 0, 1) := by decide +kernel
theorem dX9_out_43 : decode cX9_out 43 = .ok (.invokestatic 409, 3) := by decide +kernel
theorem dX9_out_46 : decode cX9_out 46 = .ok (.aload_n 0, 1) := by decide +kernel
theorem dX9_out_47 : decode cX9_out 47 = .ok (.getfield 21, 3) := by decide +kernel
theorem dX9_out_50 : decode cX9_out 50 = .ok (.invokevirtual 442, 3) := by decide +kernel
theorem dX9_out_53 : decode cX9_out 53 = .ok (.aload_n 0, 1) := by decide +kernel
theorem dX9_out_54 : decode cX9_out 54 = .ok (.aload_n 0, 1) := by decide +kernel
theorem dX9_out_55 : decode cX9_out 55 = .ok (.getfield 33, 3) := by decide +kernel
theorem dX9_out_58 : decode cX9_out 58 = .ok (.aload_n 0, 1) := by decide +kernel
theorem dX9_out_59 : decode cX9_out 59 = .ok (.getfield 389, 3) := by decide +kernel
theorem dX9_out_62 : decode cX9_out 62 = .ok (.getfield 287, 3) := by decide +kernel
theorem dX9_out_65 : decode cX9_out 65 = .ok (.iaload, 1) := by decide +kernel
theorem dX9_out_66 : decode cX9_out 66 = .ok (.invokevirtual 64, 3) := by decide +kernel
theorem dX9_out_69 : decode cX9_out 69 = .ok (.ireturn, 1) := by decide +kernel
theorem dX9_fits_0 : decode cX9_fits 0 = .ok (.aload_n 0, 1) := by decide +kernel
theorem dX9_fits_1 : decode cX9_fits 1 = .ok (.iconst 0, 1) := by decide +kernel
theorem dX9_fits_2 : decode cX9_fits 2 = .ok (.putfield 54, 3) := by decide +kernel
theorem dX9_fits_5 : decode cX9_fits 5 = .ok (.aload_n 0, 1) := by decide +kernel
theorem dX9_fits_6 : decode cX9_fits 6 = .ok (.getfield 389, 3) := by decide +kernel
theorem dX9_fits_9 : decode cX9_fits 9 = .ok (.ifnonnull 9, 3) := by decide +kernel
theorem dX9_fits_12 : decode cX9_fits 12 = .ok (.aload_n 0, 1) := by decide +kernel
theorem dX9_fits_13 : decode cX9_fits 13 = .ok (.iconst 1, 1) := by decide +kernel
theorem dX9_fits_14 : decode cX9_fits 14 = .ok (.invokevirtual 60, 3) := by decide +kernel
theorem dX9_fits_17 : decode cX9_fits 17 = .ok (.ireturn, 1) := by decide +kernel
theorem dX9_fits_18 : decode cX9_fits 18 = .ok (.iconst 0, 1) := by decide +kernel
theorem dX9_fits_19 : decode cX9_fits 19 = .ok (.istore_n 1, 1) := by decide +kernel
theorem dX9_fits_20 : decode cX9_fits 20 = .ok (.iconst 0, 1) := by decide +kernel
theorem dX9_fits_21 : decode cX9_fits 21 = .ok (.istore_n 2, 1) := by decide +kernel
theorem dX9_fits_22 : decode cX9_fits 22 = .ok (.iload_n 2, 1) := by decide +kernel
theorem dX9_fits_23 : decode cX9_fits 23 = .ok (.iconst 5, 1) := by decide +kernel
theorem dX9_fits_24 : decode cX9_fits 24 = .ok (.if_icmp .ge 27, 3) := by decide +kernel
theorem dX9_fits_27 : decode cX9_fits 27 = .ok (.iload_n 1, 1) := by decide +kernel
theorem dX9_fits_28 : decode cX9_fits 28 = .ok (.aload_n 0, 1) := by decide +kernel
theorem dX9_fits_29 : decode cX9_fits 29 = .ok (.iload_n 2, 1) := by decide +kernel
theorem dX9_fits_30 : decode cX9_fits 30 = .ok (.invokevirtual 579, 3) := by decide +kernel
theorem dX9_fits_33 : decode cX9_fits 33 = .ok (.ifCond .eq 9, 3) := by decide +kernel
theorem dX9_fits_36 : decode cX9_fits 36 = .ok (.iconst 1, 1) := by decide +kernel
theorem dX9_fits_37 : decode cX9_fits 37 = .ok (.iload_n 2, 1) := by decide +kernel
theorem dX9_fits_38 : decode cX9_fits 38 = .ok (.ishl, 1) := by decide +kernel
theorem dX9_fits_39 : decode cX9_fits 39 = .ok (.goto 4, 3) := by decide +kernel
theorem dX9_fits_42 : decode cX9_fits 42 = .ok (.iconst 0, 1) := by decide +kernel
theorem dX9_fits_43 : decode cX9_fits 43 = .ok (.ior, 1) := by decide +kernel
theorem dX9_fits_44 : decode cX9_fits 44 = .ok (.istore_n 1, 1) := by decide +kernel
theorem dX9_fits_45 : decode cX9_fits 45 = .ok (.iinc 2 1, 3) := by decide +kernel
theorem dX9_fits_48 : decode cX9_fits 48 = .ok (.goto (-26), 3) := by decide +kernel
theorem dX9_fits_51 : decode cX9_fits 51 = .ok (.aload_n 0, 1) := by decide +kernel
theorem dX9_fits_52 : decode cX9_fits 52 = .ok (.iload_n 1, 1) := by decide +kernel
theorem dX9_fits_53 : decode cX9_fits 53 = .ok (.invokevirtual 64, 3) := by decide +kernel
theorem dX9_fits_56 : decode cX9_fits 56 = .ok (.ireturn, 1) := by decide +kernel
theorem dX9_fitsBy_0 : decode cX9_fitsBy 0 = .ok (.aload_n 0, 1) := by decide +kernel
theorem dX9_fitsBy_1 : decode cX9_fitsBy 1 = .ok (.aload_n 0, 1) := by decide +kernel
theorem dX9_fitsBy_2 : decode cX9_fitsBy 2 = .ok (.getfield 24, 3) := by decide +kernel
theorem dX9_fitsBy_5 : decode cX9_fitsBy 5 = .ok (.invokevirtual 391, 3) := by decide +kernel
theorem dX9_fitsBy_8 : decode cX9_fitsBy 8 = .ok (.aload_n 0, 1) := by decide +kernel
theorem dX9_fitsBy_9 : decode cX9_fitsBy 9 = .ok (.invokevirtual 501, 3) := by decide +kernel
theorem dX9_fitsBy_12 : decode cX9_fitsBy 12 = .ok (.aload_n 0, 1) := by decide +kernel
theorem dX9_fitsBy_13 : decode cX9_fitsBy 13 = .ok (.getfield 24, 3) := by decide +kernel
theorem dX9_fitsBy_16 : decode cX9_fitsBy 16 = .ok (.sipush 291, 3) := by decide +kernel
theorem dX9_fitsBy_19 : decode cX9_fitsBy 19 = .ok (.iload_n 1, 1) := by decide +kernel
theorem dX9_fitsBy_20 : decode cX9_fitsBy 20 = .ok (.iastore, 1) := by decide +kernel
theorem dX9_fitsBy_21 : decode cX9_fitsBy 21 = .ok (.iconst 1, 1) := by decide +kernel
theorem dX9_fitsBy_22 : decode cX9_fitsBy 22 = .ok (.istore_n 2, 1) := by decide +kernel
theorem dX9_fitsBy_23 : decode cX9_fitsBy 23 = .ok (.iconst 0, 1) := by decide +kernel
theorem dX9_fitsBy_24 : decode cX9_fitsBy 24 = .ok (.istore_n 3, 1) := by decide +kernel
theorem dX9_fitsBy_25 : decode cX9_fitsBy 25 = .ok (.iload_n 3, 1) := by decide +kernel
theorem dX9_fitsBy_26 : decode cX9_fitsBy 26 = .ok (.bipush 40, 2) := by decide +kernel
theorem dX9_fitsBy_28 : decode cX9_fitsBy 28 = .ok (.if_icmp .gt 117, 3) := by decide +kernel
theorem dX9_fitsBy_31 : decode cX9_fitsBy 31 = .ok (.iload_n 2, 1) := by decide +kernel
theorem dX9_fitsBy_32 : decode cX9_fitsBy 32 = .ok (.ifCond .eq 113, 3) := by decide +kernel
theorem dX9_fitsBy_35 : decode cX9_fitsBy 35 = .ok (.iconst 0, 1) := by decide +kernel
theorem dX9_fitsBy_36 : decode cX9_fitsBy 36 = .ok (.istore 4, 2) := by decide +kernel
theorem dX9_fitsBy_38 : decode cX9_fitsBy 38 = .ok (.iload 4, 2) := by decide +kernel
theorem dX9_fitsBy_40 : decode cX9_fitsBy 40 = .ok (.aload_n 0, 1) := by decide +kernel
theorem dX9_fitsBy_41 : decode cX9_fitsBy 41 = .ok (.getfield 389, 3) := by decide +kernel
theorem dX9_fitsBy_44 : decode cX9_fitsBy 44 = .ok (.getfield 370, 3) := by decide +kernel
theorem dX9_fitsBy_47 : decode cX9_fitsBy 47 = .ok (.if_icmp .ge 83, 3) := by decide +kernel
theorem dX9_fitsBy_50 : decode cX9_fitsBy 50 = .ok (.aload_n 0, 1) := by decide +kernel
theorem dX9_fitsBy_51 : decode cX9_fitsBy 51 = .ok (.getfield 389, 3) := by decide +kernel
theorem dX9_fitsBy_54 : decode cX9_fitsBy 54 = .ok (.getfield 373, 3) := by decide +kernel
theorem dX9_fitsBy_57 : decode cX9_fitsBy 57 = .ok (.iload 4, 2) := by decide +kernel
theorem dX9_fitsBy_59 : decode cX9_fitsBy 59 = .ok (.iaload, 1) := by decide +kernel
theorem dX9_fitsBy_60 : decode cX9_fitsBy 60 = .ok (.iload_n 3, 1) := by decide +kernel
theorem dX9_fitsBy_61 : decode cX9_fitsBy 61 = .ok (.if_icmp .eq 6, 3) := by decide +kernel
theorem dX9_fitsBy_64 : decode cX9_fitsBy 64 = .ok (.goto 60, 3) := by decide +kernel
theorem dX9_fitsBy_67 : decode cX9_fitsBy 67 = .ok (.aload_n 0, 1) := by decide +kernel
theorem dX9_fitsBy_68 : decode cX9_fitsBy 68 = .ok (.getfield 24, 3) := by decide +kernel
theorem dX9_fitsBy_71 : decode cX9_fitsBy 71 = .ok (.aload_n 0, 1) := by decide +kernel
theorem dX9_fitsBy_72 : decode cX9_fitsBy 72 = .ok (.getfield 389, 3) := by decide +kernel
theorem dX9_fitsBy_75 : decode cX9_fitsBy 75 = .ok (.getfield 376, 3) := by decide +kernel
theorem dX9_fitsBy_78 : decode cX9_fitsBy 78 = .ok (.iload 4, 2) := by decide +kernel
theorem dX9_fitsBy_80 : decode cX9_fitsBy 80 = .ok (.iaload, 1) := by decide +kernel
theorem dX9_fitsBy_81 : decode cX9_fitsBy 81 = .ok (.invokestatic 523, 3) := by decide +kernel
theorem dX9_fitsBy_84 : decode cX9_fitsBy 84 = .ok (.istore 5, 2) := by decide +kernel
theorem dX9_fitsBy_86 : decode cX9_fitsBy 86 = .ok (.iload_n 2, 1) := by decide +kernel
theorem dX9_fitsBy_87 : decode cX9_fitsBy 87 = .ok (.ifCond .eq 35, 3) := by decide +kernel
theorem dX9_fitsBy_90 : decode cX9_fitsBy 90 = .ok (.iload 5, 2) := by decide +kernel
theorem dX9_fitsBy_92 : decode cX9_fitsBy 92 = .ok (.iconst (-1), 1) := by decide +kernel
theorem dX9_fitsBy_93 : decode cX9_fitsBy 93 = .ok (.if_icmp .eq 29, 3) := by decide +kernel
theorem dX9_fitsBy_96 : decode cX9_fitsBy 96 = .ok (.aload_n 0, 1) := by decide +kernel
theorem dX9_fitsBy_97 : decode cX9_fitsBy 97 = .ok (.getfield 24, 3) := by decide +kernel
theorem dX9_fitsBy_100 : decode cX9_fitsBy 100 = .ok (.iload 5, 2) := by decide +kernel
theorem dX9_fitsBy_102 : decode cX9_fitsBy 102 = .ok (.invokestatic 409, 3) := by decide +kernel
theorem dX9_fitsBy_105 : decode cX9_fitsBy 105 = .ok (.aload_n 0, 1) := by decide +kernel
theorem dX9_fitsBy_106 : decode cX9_fitsBy 106 = .ok (.getfield 389, 3) := by decide +kernel
theorem dX9_fitsBy_109 : decode cX9_fitsBy 109 = .ok (.getfield 379, 3) := by decide +kernel
theorem dX9_fitsBy_112 : decode cX9_fitsBy 112 = .ok (.iload 4, 2) := by decide +kernel
theorem dX9_fitsBy_114 : decode cX9_fitsBy 114 = .ok (.iaload, 1) := by decide +kernel
theorem dX9_fitsBy_115 : decode cX9_fitsBy 115 = .ok (.if_icmp .ne 7, 3) := by decide +kernel
theorem dX9_fitsBy_118 : decode cX9_fitsBy 118 = .ok (.iconst 1, 1) := by decide +kernel
theorem dX9_fitsBy_119 : decode cX9_fitsBy 119 = .ok (.goto 4, 3) := by decide +kernel
theorem dX9_fitsBy_122 : decode cX9_fitsBy 122 = .ok (.iconst 0, 1) := by decide +kernel
theorem dX9_fitsBy_123 : decode cX9_fitsBy 123 = .ok (.istore_n 2, 1) := by decide +kernel
theorem dX9_fitsBy_124 : decode cX9_fitsBy 124 = .ok (.iinc 4 1, 3) := by decide +kernel
theorem dX9_fitsBy_127 : decode cX9_fitsBy 127 = .ok (.goto (-89), 3) := by decide +kernel
theorem dX9_fitsBy_130 : decode cX9_fitsBy 130 = .ok (.aload_n 0, 1) := by decide +kernel
theorem dX9_fitsBy_131 : decode cX9_fitsBy 131 = .ok (.aload_n 0, 1) := by decide +kernel
theorem dX9_fitsBy_132 : decode cX9_fitsBy 132 = .ok (.getfield 24, 3) := by decide +kernel
theorem dX9_fitsBy_135 : decode cX9_fitsBy 135 = .ok (.iconst 0, 1) := by decide +kernel
theorem dX9_fitsBy_136 : decode cX9_fitsBy 136 = .ok (.invokevirtual 504, 3) := by decide +kernel
theorem dX9_fitsBy_139 : decode cX9_fitsBy 139 = .ok (.iinc 3 1, 3) := by decide +kernel
theorem dX9_fitsBy_142 : decode cX9_fitsBy 142 = .ok (.goto (-117), 3) := by decide +kernel
theorem dX9_fitsBy_145 : decode cX9_fitsBy 145 = .ok (.iload_n 2, 1) := by decide +kernel
theorem dX9_fitsBy_146 : decode cX9_fitsBy 146 = .ok (.ireturn, 1) := by decide +kernel
theorem dX9_keeps_0 : decode cX9_keeps 0 = .ok (.aload_n 0, 1) := by decide +kernel
theorem dX9_keeps_1 : decode cX9_keeps 1 = .ok (.getfield 395, 3) := by decide +kernel
theorem dX9_keeps_4 : decode cX9_keeps 4 = .ok (.bipush 10, 2) := by decide +kernel
theorem dX9_keeps_6 : decode cX9_keeps 6 = .ok (.if_icmp .ne 44, 3) := by decide +kernel
theorem dX9_keeps_9 : decode cX9_keeps 9 = .ok (.iconst 0, 1) := by decide +kernel
theorem dX9_keeps_10 : decode cX9_keeps 10 = .ok (.istore_n 1, 1) := by decide +kernel
theorem dX9_keeps_11 : decode cX9_keeps 11 = .ok (.iload_n 1, 1) := by decide +kernel
theorem dX9_keeps_12 : decode cX9_keeps 12 = .ok (.sipush 2682, 3) := by decide +kernel
theorem dX9_keeps_15 : decode cX9_keeps 15 = .ok (.if_icmp .ge 25, 3) := by decide +kernel
theorem dX9_keeps_18 : decode cX9_keeps 18 = .ok (.aload_n 0, 1) := by decide +kernel
theorem dX9_keeps_19 : decode cX9_keeps 19 = .ok (.getfield 27, 3) := by decide +kernel
theorem dX9_keeps_22 : decode cX9_keeps 22 = .ok (.iload_n 1, 1) := by decide +kernel
theorem dX9_keeps_23 : decode cX9_keeps 23 = .ok (.aload_n 0, 1) := by decide +kernel
theorem dX9_keeps_24 : decode cX9_keeps 24 = .ok (.getfield 27, 3) := by decide +kernel
theorem dX9_keeps_27 : decode cX9_keeps 27 = .ok (.iload_n 1, 1) := by decide +kernel
theorem dX9_keeps_28 : decode cX9_keeps 28 = .ok (.sipush 298, 3) := by decide +kernel
theorem dX9_keeps_31 : decode cX9_keeps 31 = .ok (.iadd, 1) := by decide +kernel
theorem dX9_keeps_32 : decode cX9_keeps 32 = .ok (.iaload, 1) := by decide +kernel
theorem dX9_keeps_33 : decode cX9_keeps 33 = .ok (.iastore, 1) := by decide +kernel
theorem dX9_keeps_34 : decode cX9_keeps 34 = .ok (.iinc 1 1, 3) := by decide +kernel
theorem dX9_keeps_37 : decode cX9_keeps 37 = .ok (.goto (-26), 3) := by decide +kernel
theorem dX9_keeps_40 : decode cX9_keeps 40 = .ok (.aload_n 0, 1) := by decide +kernel
theorem dX9_keeps_41 : decode cX9_keeps 41 = .ok (.dup, 1) := by decide +kernel
theorem dX9_keeps_42 : decode cX9_keeps 42 = .ok (.getfield 395, 3) := by decide +kernel
theorem dX9_keeps_45 : decode cX9_keeps 45 = .ok (.iconst 1, 1) := by decide +kernel
theorem dX9_keeps_46 : decode cX9_keeps 46 = .ok (.isub, 1) := by decide +kernel
theorem dX9_keeps_47 : decode cX9_keeps 47 = .ok (.putfield 395, 3) := by decide +kernel
theorem dX9_keeps_50 : decode cX9_keeps 50 = .ok (.iconst 0, 1) := by decide +kernel
theorem dX9_keeps_51 : decode cX9_keeps 51 = .ok (.istore_n 1, 1) := by decide +kernel
theorem dX9_keeps_52 : decode cX9_keeps 52 = .ok (.iload_n 1, 1) := by decide +kernel
theorem dX9_keeps_53 : decode cX9_keeps 53 = .ok (.sipush 298, 3) := by decide +kernel
theorem dX9_keeps_56 : decode cX9_keeps 56 = .ok (.if_icmp .ge 30, 3) := by decide +kernel
theorem dX9_keeps_59 : decode cX9_keeps 59 = .ok (.aload_n 0, 1) := by decide +kernel
theorem dX9_keeps_60 : decode cX9_keeps 60 = .ok (.getfield 27, 3) := by decide +kernel
theorem dX9_keeps_63 : decode cX9_keeps 63 = .ok (.sipush 298, 3) := by decide +kernel
theorem dX9_keeps_66 : decode cX9_keeps 66 = .ok (.aload_n 0, 1) := by decide +kernel
theorem dX9_keeps_67 : decode cX9_keeps 67 = .ok (.getfield 395, 3) := by decide +kernel
theorem dX9_keeps_70 : decode cX9_keeps 70 = .ok (.imul, 1) := by decide +kernel
theorem dX9_keeps_71 : decode cX9_keeps 71 = .ok (.iload_n 1, 1) := by decide +kernel
theorem dX9_keeps_72 : decode cX9_keeps 72 = .ok (.iadd, 1) := by decide +kernel
theorem dX9_keeps_73 : decode cX9_keeps 73 = .ok (.aload_n 0, 1) := by decide +kernel
theorem dX9_keeps_74 : decode cX9_keeps 74 = .ok (.getfield 21, 3) := by decide +kernel
theorem dX9_keeps_77 : decode cX9_keeps 77 = .ok (.iload_n 1, 1) := by decide +kernel
theorem dX9_keeps_78 : decode cX9_keeps 78 = .ok (.iaload, 1) := by decide +kernel
theorem dX9_keeps_79 : decode cX9_keeps 79 = .ok (.iastore, 1) := by decide +kernel
theorem dX9_keeps_80 : decode cX9_keeps 80 = .ok (.iinc 1 1, 3) := by decide +kernel
theorem dX9_keeps_83 : decode cX9_keeps 83 = .ok (.goto (-31), 3) := by decide +kernel
theorem dX9_keeps_86 : decode cX9_keeps 86 = .ok (.aload_n 0, 1) := by decide +kernel
theorem dX9_keeps_87 : decode cX9_keeps 87 = .ok (.dup, 1) := by decide +kernel
theorem dX9_keeps_88 : decode cX9_keeps 88 = .ok (.getfield 395, 3) := by decide +kernel
theorem dX9_keeps_91 : decode cX9_keeps 91 = .ok (.iconst 1, 1) := by decide +kernel
theorem dX9_keeps_92 : decode cX9_keeps 92 = .ok (.iadd, 1) := by decide +kernel
theorem dX9_keeps_93 : decode cX9_keeps 93 = .ok (.putfield 395, 3) := by decide +kernel
theorem dX9_keeps_96 : decode cX9_keeps 96 = .ok (.return_, 1) := by decide +kernel
theorem dX9_dance_0 : decode cX9_dance 0 = .ok (.aload_n 0, 1) := by decide +kernel
theorem dX9_dance_1 : decode cX9_dance 1 = .ok (.iconst 0, 1) := by decide +kernel
theorem dX9_dance_2 : decode cX9_dance 2 = .ok (.putfield 54, 3) := by decide +kernel
theorem dX9_dance_5 : decode cX9_dance 5 = .ok (.aload_n 0, 1) := by decide +kernel
theorem dX9_dance_6 : decode cX9_dance 6 = .ok (.getfield 389, 3) := by decide +kernel
theorem dX9_dance_9 : decode cX9_dance 9 = .ok (.ifnonnull 9, 3) := by decide +kernel
theorem dX9_dance_12 : decode cX9_dance 12 = .ok (.aload_n 0, 1) := by decide +kernel
theorem dX9_dance_13 : decode cX9_dance 13 = .ok (.iconst 1, 1) := by decide +kernel
theorem dX9_dance_14 : decode cX9_dance 14 = .ok (.invokevirtual 60, 3) := by decide +kernel
theorem dX9_dance_17 : decode cX9_dance 17 = .ok (.ireturn, 1) := by decide +kernel
theorem dX9_dance_18 : decode cX9_dance 18 = .ok (.iload_n 1, 1) := by decide +kernel
theorem dX9_dance_19 : decode cX9_dance 19 = .ok (.iconst 1, 1) := by decide +kernel
theorem dX9_dance_20 : decode cX9_dance 20 = .ok (.bipush 20, 2) := by decide +kernel
theorem dX9_dance_22 : decode cX9_dance 22 = .ok (.invokestatic 135, 3) := by decide +kernel
theorem dX9_dance_25 : decode cX9_dance 25 = .ok (.ifCond .ne 9, 3) := by decide +kernel
theorem dX9_dance_28 : decode cX9_dance 28 = .ok (.aload_n 0, 1) := by decide +kernel
theorem dX9_dance_29 : decode cX9_dance 29 = .ok (.iconst 2, 1) := by decide +kernel
theorem dX9_dance_30 : decode cX9_dance 30 = .ok (.invokevirtual 60, 3) := by decide +kernel
theorem dX9_dance_33 : decode cX9_dance 33 = .ok (.ireturn, 1) := by decide +kernel
theorem dX9_dance_34 : decode cX9_dance 34 = .ok (.aload_n 0, 1) := by decide +kernel
theorem dX9_dance_35 : decode cX9_dance 35 = .ok (.getfield 21, 3) := by decide +kernel
theorem dX9_dance_38 : decode cX9_dance 38 = .ok (.invokestatic 477, 3) := by decide +kernel
theorem dX9_dance_41 : decode cX9_dance 41 = .ok (.ifCond .le 9, 3) := by decide +kernel
theorem dX9_dance_44 : decode cX9_dance 44 = .ok (.aload_n 0, 1) := by decide +kernel
theorem dX9_dance_45 : decode cX9_dance 45 = .ok (.iconst 5, 1) := by decide +kernel
theorem dX9_dance_46 : decode cX9_dance 46 = .ok (.invokevirtual 60, 3) := by decide +kernel
theorem dX9_dance_49 : decode cX9_dance 49 = .ok (.ireturn, 1) := by decide +kernel
theorem dX9_dance_50 : decode cX9_dance 50 = .ok (.aload_n 0, 1) := by decide +kernel
theorem dX9_dance_51 : decode cX9_dance 51 = .ok (.invokevirtual 582, 3) := by decide +kernel
theorem dX9_dance_54 : decode cX9_dance 54 = .ok (.aload_n 0, 1) := by decide +kernel
theorem dX9_dance_55 : decode cX9_dance 55 = .ok (.invokevirtual 501, 3) := by decide +kernel
theorem dX9_dance_58 : decode cX9_dance 58 = .ok (.iconst 0, 1) := by decide +kernel
theorem dX9_dance_59 : decode cX9_dance 59 = .ok (.istore_n 2, 1) := by decide +kernel
theorem dX9_dance_60 : decode cX9_dance 60 = .ok (.iload_n 2, 1) := by decide +kernel
theorem dX9_dance_61 : decode cX9_dance 61 = .ok (.iload_n 1, 1) := by decide +kernel
theorem dX9_dance_62 : decode cX9_dance 62 = .ok (.if_icmp .ge 18, 3) := by decide +kernel
theorem dX9_dance_65 : decode cX9_dance 65 = .ok (.aload_n 0, 1) := by decide +kernel
theorem dX9_dance_66 : decode cX9_dance 66 = .ok (.aload_n 0, 1) := by decide +kernel
theorem dX9_dance_67 : decode cX9_dance 67 = .ok (.getfield 21, 3) := by decide +kernel
theorem dX9_dance_70 : decode cX9_dance 70 = .ok (.iconst 0, 1) := by decide +kernel
theorem dX9_dance_71 : decode cX9_dance 71 = .ok (.invokevirtual 504, 3) := by decide +kernel
theorem dX9_dance_74 : decode cX9_dance 74 = .ok (.iinc 2 1, 3) := by decide +kernel
theorem dX9_dance_77 : decode cX9_dance 77 = .ok (.goto (-17), 3) := by decide +kernel
theorem dX9_dance_80 : decode cX9_dance 80 = .ok (.aload_n 0, 1) := by decide +kernel
theorem dX9_dance_81 : decode cX9_dance 81 = .ok (.aload_n 0, 1) := by decide +kernel
theorem dX9_dance_82 : decode cX9_dance 82 = .ok (.getfield 21, 3) := by decide +kernel
theorem dX9_dance_85 : decode cX9_dance 85 = .ok (.sipush 289, 3) := by decide +kernel
theorem dX9_dance_88 : decode cX9_dance 88 = .ok (.iaload, 1) := by decide +kernel
theorem dX9_dance_89 : decode cX9_dance 89 = .ok (.invokevirtual 64, 3) := by decide +kernel
theorem dX9_dance_92 : decode cX9_dance 92 = .ok (.ireturn, 1) := by decide +kernel
theorem dX9_lead_0 : decode cX9_lead 0 = .ok (.aload_n 0, 1) := by decide +kernel
theorem dX9_lead_1 : decode cX9_lead 1 = .ok (.iconst 0, 1) := by decide +kernel
theorem dX9_lead_2 : decode cX9_lead 2 = .ok (.putfield 54, 3) := by decide +kernel
theorem dX9_lead_5 : decode cX9_lead 5 = .ok (.aload_n 0, 1) := by decide +kernel
theorem dX9_lead_6 : decode cX9_lead 6 = .ok (.getfield 389, 3) := by decide +kernel
theorem dX9_lead_9 : decode cX9_lead 9 = .ok (.ifnull 12, 3) := by decide +kernel
theorem dX9_lead_12 : decode cX9_lead 12 = .ok (.iload_n 1, 1) := by decide +kernel
theorem dX9_lead_13 : decode cX9_lead 13 = .ok (.iconst 0, 1) := by decide +kernel
theorem dX9_lead_14 : decode cX9_lead 14 = .ok (.iconst 4, 1) := by decide +kernel
theorem dX9_lead_15 : decode cX9_lead 15 = .ok (.invokestatic 135, 3) := by decide +kernel
theorem dX9_lead_18 : decode cX9_lead 18 = .ok (.ifCond .ne 9, 3) := by decide +kernel
theorem dX9_lead_21 : decode cX9_lead 21 = .ok (.aload_n 0, 1) := by decide +kernel
theorem dX9_lead_22 : decode cX9_lead 22 = .ok (.iconst 1, 1) := by decide +kernel
theorem dX9_lead_23 : decode cX9_lead 23 = .ok (.invokevirtual 585, 3) := by decide +kernel
theorem dX9_lead_26 : decode cX9_lead 26 = .ok (.ireturn, 1) := by decide +kernel
theorem dX9_lead_27 : decode cX9_lead 27 = .ok (.aload_n 0, 1) := by decide +kernel
theorem dX9_lead_28 : decode cX9_lead 28 = .ok (.getfield 21, 3) := by decide +kernel
theorem dX9_lead_31 : decode cX9_lead 31 = .ok (.sipush 291, 3) := by decide +kernel
theorem dX9_lead_34 : decode cX9_lead 34 = .ok (.iaload, 1) := by decide +kernel
theorem dX9_lead_35 : decode cX9_lead 35 = .ok (.iload_n 1, 1) := by decide +kernel
theorem dX9_lead_36 : decode cX9_lead 36 = .ok (.if_icmp .ne 9, 3) := by decide +kernel
theorem dX9_lead_39 : decode cX9_lead 39 = .ok (.aload_n 0, 1) := by decide +kernel
theorem dX9_lead_40 : decode cX9_lead 40 = .ok (.iconst 5, 1) := by decide +kernel
theorem dX9_lead_41 : decode cX9_lead 41 = .ok (.invokevirtual 585, 3) := by decide +kernel
theorem dX9_lead_44 : decode cX9_lead 44 = .ok (.ireturn, 1) := by decide +kernel
theorem dX9_lead_45 : decode cX9_lead 45 = .ok (.aload_n 0, 1) := by decide +kernel
theorem dX9_lead_46 : decode cX9_lead 46 = .ok (.invokevirtual 582, 3) := by decide +kernel
theorem dX9_lead_49 : decode cX9_lead 49 = .ok (.aload_n 0, 1) := by decide +kernel
theorem dX9_lead_50 : decode cX9_lead 50 = .ok (.getfield 21, 3) := by decide +kernel
theorem dX9_lead_53 : decode cX9_lead 53 = .ok (.sipush 291, 3) := by decide +kernel
theorem dX9_lead_56 : decode cX9_lead 56 = .ok (.iload_n 1, 1) := by decide +kernel
theorem dX9_lead_57 : decode cX9_lead 57 = .ok (.iastore, 1) := by decide +kernel
theorem dX9_lead_58 : decode cX9_lead 58 = .ok (.aload_n 0, 1) := by decide +kernel
theorem dX9_lead_59 : decode cX9_lead 59 = .ok (.invokevirtual 588, 3) := by decide +kernel
theorem dX9_lead_62 : decode cX9_lead 62 = .ok (.ireturn, 1) := by decide +kernel
theorem dX9_change_0 : decode cX9_change 0 = .ok (.aload_n 0, 1) := by decide +kernel
theorem dX9_change_1 : decode cX9_change 1 = .ok (.iconst 0, 1) := by decide +kernel
theorem dX9_change_2 : decode cX9_change 2 = .ok (.putfield 54, 3) := by decide +kernel
theorem dX9_change_5 : decode cX9_change 5 = .ok (.aload_n 0, 1) := by decide +kernel
theorem dX9_change_6 : decode cX9_change 6 = .ok (.iload_n 1, 1) := by decide +kernel
theorem dX9_change_7 : decode cX9_change 7 = .ok (.invokevirtual 511, 3) := by decide +kernel
theorem dX9_change_10 : decode cX9_change 10 = .ok (.ifCond .eq 24, 3) := by decide +kernel
theorem dX9_change_13 : decode cX9_change 13 = .ok (.aload_n 0, 1) := by decide +kernel
theorem dX9_change_14 : decode cX9_change 14 = .ok (.iload_n 2, 1) := by decide +kernel
theorem dX9_change_15 : decode cX9_change 15 = .ok (.invokevirtual 511, 3) := by decide +kernel
theorem dX9_change_18 : decode cX9_change 18 = .ok (.ifCond .eq 16, 3) := by decide +kernel
theorem dX9_change_21 : decode cX9_change 21 = .ok (.iload_n 1, 1) := by decide +kernel
theorem dX9_change_22 : decode cX9_change 22 = .ok (.iload_n 2, 1) := by decide +kernel
theorem dX9_change_23 : decode cX9_change 23 = .ok (.if_icmp .eq 11, 3) := by decide +kernel
theorem dX9_change_26 : decode cX9_change 26 = .ok (.iload_n 1, 1) := by decide +kernel
theorem dX9_change_27 : decode cX9_change 27 = .ok (.ifCond .eq 7, 3) := by decide +kernel
theorem dX9_change_30 : decode cX9_change 30 = .ok (.iload_n 2, 1) := by decide +kernel
theorem dX9_change_31 : decode cX9_change 31 = .ok (.ifCond .ne 9, 3) := by decide +kernel
theorem dX9_change_34 : decode cX9_change 34 = .ok (.aload_n 0, 1) := by decide +kernel
theorem dX9_change_35 : decode cX9_change 35 = .ok (.iconst 1, 1) := by decide +kernel
theorem dX9_change_36 : decode cX9_change 36 = .ok (.invokevirtual 585, 3) := by decide +kernel
theorem dX9_change_39 : decode cX9_change 39 = .ok (.ireturn, 1) := by decide +kernel
theorem dX9_change_40 : decode cX9_change 40 = .ok (.aload_n 0, 1) := by decide +kernel
theorem dX9_change_41 : decode cX9_change 41 = .ok (.invokevirtual 582, 3) := by decide +kernel
theorem dX9_change_44 : decode cX9_change 44 = .ok (.aload_n 0, 1) := by decide +kernel
theorem dX9_change_45 : decode cX9_change 45 = .ok (.sipush 204, 3) := by decide +kernel
theorem dX9_change_48 : decode cX9_change 48 = .ok (.iload_n 1, 1) := by decide +kernel
theorem dX9_change_49 : decode cX9_change 49 = .ok (.iload_n 2, 1) := by decide +kernel
theorem dX9_change_50 : decode cX9_change 50 = .ok (.invokevirtual 591, 3) := by decide +kernel
theorem dX9_change_53 : decode cX9_change 53 = .ok (.aload_n 0, 1) := by decide +kernel
theorem dX9_change_54 : decode cX9_change 54 = .ok (.sipush 236, 3) := by decide +kernel
theorem dX9_change_57 : decode cX9_change 57 = .ok (.iload_n 1, 1) := by decide +kernel
theorem dX9_change_58 : decode cX9_change 58 = .ok (.iload_n 2, 1) := by decide +kernel
theorem dX9_change_59 : decode cX9_change 59 = .ok (.invokevirtual 591, 3) := by decide +kernel
theorem dX9_change_62 : decode cX9_change 62 = .ok (.aload_n 0, 1) := by decide +kernel
theorem dX9_change_63 : decode cX9_change 63 = .ok (.sipush 252, 3) := by decide +kernel
theorem dX9_change_66 : decode cX9_change 66 = .ok (.iload_n 1, 1) := by decide +kernel
theorem dX9_change_67 : decode cX9_change 67 = .ok (.iload_n 2, 1) := by decide +kernel
theorem dX9_change_68 : decode cX9_change 68 = .ok (.invokevirtual 591, 3) := by decide +kernel
theorem dX9_change_71 : decode cX9_change 71 = .ok (.aload_n 0, 1) := by decide +kernel
theorem dX9_change_72 : decode cX9_change 72 = .ok (.sipush 268, 3) := by decide +kernel
theorem dX9_change_75 : decode cX9_change 75 = .ok (.iload_n 1, 1) := by decide +kernel
theorem dX9_change_76 : decode cX9_change 76 = .ok (.iload_n 2, 1) := by decide +kernel
theorem dX9_change_77 : decode cX9_change 77 = .ok (.invokevirtual 591, 3) := by decide +kernel
theorem dX9_change_80 : decode cX9_change 80 = .ok (.aload_n 0, 1) := by decide +kernel
theorem dX9_change_81 : decode cX9_change 81 = .ok (.invokevirtual 588, 3) := by decide +kernel
theorem dX9_change_84 : decode cX9_change 84 = .ok (.ireturn, 1) := by decide +kernel
theorem dX9_swapsIn_0 : decode cX9_swapsIn 0 = .ok (.aload_n 0, 1) := by decide +kernel
theorem dX9_swapsIn_1 : decode cX9_swapsIn 1 = .ok (.getfield 21, 3) := by decide +kernel
theorem dX9_swapsIn_4 : decode cX9_swapsIn 4 = .ok (.iload_n 1, 1) := by decide +kernel
theorem dX9_swapsIn_5 : decode cX9_swapsIn 5 = .ok (.iload_n 2, 1) := by decide +kernel
theorem dX9_swapsIn_6 : decode cX9_swapsIn 6 = .ok (.iadd, 1) := by decide +kernel
theorem dX9_swapsIn_7 : decode cX9_swapsIn 7 = .ok (.iaload, 1) := by decide +kernel
theorem dX9_swapsIn_8 : decode cX9_swapsIn 8 = .ok (.istore 4, 2) := by decide +kernel
theorem dX9_swapsIn_10 : decode cX9_swapsIn 10 = .ok (.aload_n 0, 1) := by decide +kernel
theorem dX9_swapsIn_11 : decode cX9_swapsIn 11 = .ok (.getfield 21, 3) := by decide +kernel
theorem dX9_swapsIn_14 : decode cX9_swapsIn 14 = .ok (.iload_n 1, 1) := by decide +kernel
theorem dX9_swapsIn_15 : decode cX9_swapsIn 15 = .ok (.iload_n 2, 1) := by decide +kernel
theorem dX9_swapsIn_16 : decode cX9_swapsIn 16 = .ok (.iadd, 1) := by decide +kernel
theorem dX9_swapsIn_17 : decode cX9_swapsIn 17 = .ok (.aload_n 0, 1) := by decide +kernel
theorem dX9_swapsIn_18 : decode cX9_swapsIn 18 = .ok (.getfield 21, 3) := by decide +kernel
theorem dX9_swapsIn_21 : decode cX9_swapsIn 21 = .ok (.iload_n 1, 1) := by decide +kernel
theorem dX9_swapsIn_22 : decode cX9_swapsIn 22 = .ok (.iload_n 3, 1) := by decide +kernel
theorem dX9_swapsIn_23 : decode cX9_swapsIn 23 = .ok (.iadd, 1) := by decide +kernel
theorem dX9_swapsIn_24 : decode cX9_swapsIn 24 = .ok (.iaload, 1) := by decide +kernel
theorem dX9_swapsIn_25 : decode cX9_swapsIn 25 = .ok (.iastore, 1) := by decide +kernel
theorem dX9_swapsIn_26 : decode cX9_swapsIn 26 = .ok (.aload_n 0, 1) := by decide +kernel
theorem dX9_swapsIn_27 : decode cX9_swapsIn 27 = .ok (.getfield 21, 3) := by decide +kernel
theorem dX9_swapsIn_30 : decode cX9_swapsIn 30 = .ok (.iload_n 1, 1) := by decide +kernel
theorem dX9_swapsIn_31 : decode cX9_swapsIn 31 = .ok (.iload_n 3, 1) := by decide +kernel
theorem dX9_swapsIn_32 : decode cX9_swapsIn 32 = .ok (.iadd, 1) := by decide +kernel
theorem dX9_swapsIn_33 : decode cX9_swapsIn 33 = .ok (.iload 4, 2) := by decide +kernel
theorem dX9_swapsIn_35 : decode cX9_swapsIn 35 = .ok (.iastore, 1) := by decide +kernel
theorem dX9_swapsIn_36 : decode cX9_swapsIn 36 = .ok (.return_, 1) := by decide +kernel
theorem dX9_letGo_0 : decode cX9_letGo 0 = .ok (.aload_n 0, 1) := by decide +kernel
theorem dX9_letGo_1 : decode cX9_letGo 1 = .ok (.iconst 0, 1) := by decide +kernel
theorem dX9_letGo_2 : decode cX9_letGo 2 = .ok (.putfield 54, 3) := by decide +kernel
theorem dX9_letGo_5 : decode cX9_letGo 5 = .ok (.aload_n 0, 1) := by decide +kernel
theorem dX9_letGo_6 : decode cX9_letGo 6 = .ok (.iload_n 1, 1) := by decide +kernel
theorem dX9_letGo_7 : decode cX9_letGo 7 = .ok (.invokevirtual 511, 3) := by decide +kernel
theorem dX9_letGo_10 : decode cX9_letGo 10 = .ok (.ifCond .ne 9, 3) := by decide +kernel
theorem dX9_letGo_13 : decode cX9_letGo 13 = .ok (.aload_n 0, 1) := by decide +kernel
theorem dX9_letGo_14 : decode cX9_letGo 14 = .ok (.iconst 1, 1) := by decide +kernel
theorem dX9_letGo_15 : decode cX9_letGo 15 = .ok (.invokevirtual 585, 3) := by decide +kernel
theorem dX9_letGo_18 : decode cX9_letGo 18 = .ok (.ireturn, 1) := by decide +kernel
theorem dX9_letGo_19 : decode cX9_letGo 19 = .ok (.iload_n 1, 1) := by decide +kernel
theorem dX9_letGo_20 : decode cX9_letGo 20 = .ok (.ifCond .ne 9, 3) := by decide +kernel
theorem dX9_letGo_23 : decode cX9_letGo 23 = .ok (.aload_n 0, 1) := by decide +kernel
theorem dX9_letGo_24 : decode cX9_letGo 24 = .ok (.iconst 5, 1) := by decide +kernel
theorem dX9_letGo_25 : decode cX9_letGo 25 = .ok (.invokevirtual 585, 3) := by decide +kernel
theorem dX9_letGo_28 : decode cX9_letGo 28 = .ok (.ireturn, 1) := by decide +kernel
theorem dX9_letGo_29 : decode cX9_letGo 29 = .ok (.aload_n 0, 1) := by decide +kernel
theorem dX9_letGo_30 : decode cX9_letGo 30 = .ok (.invokevirtual 582, 3) := by decide +kernel
theorem dX9_letGo_33 : decode cX9_letGo 33 = .ok (.aload_n 0, 1) := by decide +kernel
theorem dX9_letGo_34 : decode cX9_letGo 34 = .ok (.getfield 21, 3) := by decide +kernel
theorem dX9_letGo_37 : decode cX9_letGo 37 = .ok (.iload_n 1, 1) := by decide +kernel
theorem dX9_letGo_38 : decode cX9_letGo 38 = .ok (.invokestatic 464, 3) := by decide +kernel
theorem dX9_letGo_41 : decode cX9_letGo 41 = .ok (.aload_n 0, 1) := by decide +kernel
theorem dX9_letGo_42 : decode cX9_letGo 42 = .ok (.invokevirtual 588, 3) := by decide +kernel
theorem dX9_letGo_45 : decode cX9_letGo 45 = .ok (.ireturn, 1) := by decide +kernel
theorem dX9_band_0 : decode cX9_band 0 = .ok (.aload_n 0, 1) := by decide +kernel
theorem dX9_band_1 : decode cX9_band 1 = .ok (.iconst 0, 1) := by decide +kernel
theorem dX9_band_2 : decode cX9_band 2 = .ok (.putfield 54, 3) := by decide +kernel
theorem dX9_band_5 : decode cX9_band 5 = .ok (.aload_n 0, 1) := by decide +kernel
theorem dX9_band_6 : decode cX9_band 6 = .ok (.iload_n 1, 1) := by decide +kernel
theorem dX9_band_7 : decode cX9_band 7 = .ok (.iload_n 2, 1) := by decide +kernel
theorem dX9_band_8 : decode cX9_band 8 = .ok (.invokevirtual 508, 3) := by decide +kernel
theorem dX9_band_11 : decode cX9_band 11 = .ok (.ifCond .eq 26, 3) := by decide +kernel
theorem dX9_band_14 : decode cX9_band 14 = .ok (.aload_n 0, 1) := by decide +kernel
theorem dX9_band_15 : decode cX9_band 15 = .ok (.getfield 389, 3) := by decide +kernel
theorem dX9_band_18 : decode cX9_band 18 = .ok (.getfield 275, 3) := by decide +kernel
theorem dX9_band_21 : decode cX9_band 21 = .ok (.aload_n 0, 1) := by decide +kernel
theorem dX9_band_22 : decode cX9_band 22 = .ok (.getfield 389, 3) := by decide +kernel
theorem dX9_band_25 : decode cX9_band 25 = .ok (.getfield 154, 3) := by decide +kernel
theorem dX9_band_28 : decode cX9_band 28 = .ok (.iload_n 2, 1) := by decide +kernel
theorem dX9_band_29 : decode cX9_band 29 = .ok (.imul, 1) := by decide +kernel
theorem dX9_band_30 : decode cX9_band 30 = .ok (.iload_n 1, 1) := by decide +kernel
theorem dX9_band_31 : decode cX9_band 31 = .ok (.iadd, 1) := by decide +kernel
theorem dX9_band_32 : decode cX9_band 32 = .ok (.iaload, 1) := by decide +kernel
theorem dX9_band_33 : decode cX9_band 33 = .ok (.iconst 2, 1) := by decide +kernel
theorem dX9_band_34 : decode cX9_band 34 = .ok (.if_icmp .ne 9, 3) := by decide +kernel
theorem dX9_band_37 : decode cX9_band 37 = .ok (.aload_n 0, 1) := by decide +kernel
theorem dX9_band_38 : decode cX9_band 38 = .ok (.iconst 1, 1) := by decide +kernel
theorem dX9_band_39 : decode cX9_band 39 = .ok (.invokevirtual 585, 3) := by decide +kernel
theorem dX9_band_42 : decode cX9_band 42 = .ok (.ireturn, 1) := by decide +kernel
theorem dX9_band_43 : decode cX9_band 43 = .ok (.aload_n 0, 1) := by decide +kernel
theorem dX9_band_44 : decode cX9_band 44 = .ok (.getfield 21, 3) := by decide +kernel
theorem dX9_band_47 : decode cX9_band 47 = .ok (.sipush 296, 3) := by decide +kernel
theorem dX9_band_50 : decode cX9_band 50 = .ok (.iaload, 1) := by decide +kernel
theorem dX9_band_51 : decode cX9_band 51 = .ok (.bipush (-2), 2) := by decide +kernel
theorem dX9_band_53 : decode cX9_band 53 = .ok (.if_icmp .ne 10, 3) := by decide +kernel
theorem dX9_band_56 : decode cX9_band 56 = .ok (.aload_n 0, 1) := by decide +kernel
theorem dX9_band_57 : decode cX9_band 57 = .ok (.bipush 6, 2) := by decide +kernel
theorem dX9_band_59 : decode cX9_band 59 = .ok (.invokevirtual 585, 3) := by decide +kernel
theorem dX9_band_62 : decode cX9_band 62 = .ok (.ireturn, 1) := by decide +kernel
theorem dX9_band_63 : decode cX9_band 63 = .ok (.aload_n 0, 1) := by decide +kernel
theorem dX9_band_64 : decode cX9_band 64 = .ok (.getfield 21, 3) := by decide +kernel
theorem dX9_band_67 : decode cX9_band 67 = .ok (.sipush 296, 3) := by decide +kernel
theorem dX9_band_70 : decode cX9_band 70 = .ok (.iaload, 1) := by decide +kernel
theorem dX9_band_71 : decode cX9_band 71 = .ok (.aload_n 0, 1) := by decide +kernel
theorem dX9_band_72 : decode cX9_band 72 = .ok (.getfield 389, 3) := by decide +kernel
theorem dX9_band_75 : decode cX9_band 75 = .ok (.getfield 154, 3) := by decide +kernel
theorem dX9_band_78 : decode cX9_band 78 = .ok (.iload_n 2, 1) := by decide +kernel
theorem dX9_band_79 : decode cX9_band 79 = .ok (.imul, 1) := by decide +kernel
theorem dX9_band_80 : decode cX9_band 80 = .ok (.iload_n 1, 1) := by decide +kernel
theorem dX9_band_81 : decode cX9_band 81 = .ok (.iadd, 1) := by decide +kernel
theorem dX9_band_82 : decode cX9_band 82 = .ok (.if_icmp .ne 9, 3) := by decide +kernel
theorem dX9_band_85 : decode cX9_band 85 = .ok (.aload_n 0, 1) := by decide +kernel
theorem dX9_band_86 : decode cX9_band 86 = .ok (.iconst 5, 1) := by decide +kernel
theorem dX9_band_87 : decode cX9_band 87 = .ok (.invokevirtual 585, 3) := by decide +kernel
theorem dX9_band_90 : decode cX9_band 90 = .ok (.ireturn, 1) := by decide +kernel
theorem dX9_band_91 : decode cX9_band 91 = .ok (.aload_n 0, 1) := by decide +kernel
theorem dX9_band_92 : decode cX9_band 92 = .ok (.invokevirtual 582, 3) := by decide +kernel
theorem dX9_band_95 : decode cX9_band 95 = .ok (.aload_n 0, 1) := by decide +kernel
theorem dX9_band_96 : decode cX9_band 96 = .ok (.getfield 21, 3) := by decide +kernel
theorem dX9_band_99 : decode cX9_band 99 = .ok (.sipush 296, 3) := by decide +kernel
theorem dX9_band_102 : decode cX9_band 102 = .ok (.aload_n 0, 1) := by decide +kernel
theorem dX9_band_103 : decode cX9_band 103 = .ok (.getfield 389, 3) := by decide +kernel
theorem dX9_band_106 : decode cX9_band 106 = .ok (.getfield 154, 3) := by decide +kernel
theorem dX9_band_109 : decode cX9_band 109 = .ok (.iload_n 2, 1) := by decide +kernel
theorem dX9_band_110 : decode cX9_band 110 = .ok (.imul, 1) := by decide +kernel
theorem dX9_band_111 : decode cX9_band 111 = .ok (.iload_n 1, 1) := by decide +kernel
theorem dX9_band_112 : decode cX9_band 112 = .ok (.iadd, 1) := by decide +kernel
theorem dX9_band_113 : decode cX9_band 113 = .ok (.iastore, 1) := by decide +kernel
theorem dX9_band_114 : decode cX9_band 114 = .ok (.aload_n 0, 1) := by decide +kernel
theorem dX9_band_115 : decode cX9_band 115 = .ok (.invokevirtual 588, 3) := by decide +kernel
theorem dX9_band_118 : decode cX9_band 118 = .ok (.ireturn, 1) := by decide +kernel
theorem dX9_seed_0 : decode cX9_seed 0 = .ok (.aload_n 0, 1) := by decide +kernel
theorem dX9_seed_1 : decode cX9_seed 1 = .ok (.iconst 0, 1) := by decide +kernel
theorem dX9_seed_2 : decode cX9_seed 2 = .ok (.putfield 54, 3) := by decide +kernel
theorem dX9_seed_5 : decode cX9_seed 5 = .ok (.aload_n 0, 1) := by decide +kernel
theorem dX9_seed_6 : decode cX9_seed 6 = .ok (.getfield 389, 3) := by decide +kernel
theorem dX9_seed_9 : decode cX9_seed 9 = .ok (.ifnonnull 9, 3) := by decide +kernel
theorem dX9_seed_12 : decode cX9_seed 12 = .ok (.aload_n 0, 1) := by decide +kernel
theorem dX9_seed_13 : decode cX9_seed 13 = .ok (.iconst 1, 1) := by decide +kernel
theorem dX9_seed_14 : decode cX9_seed 14 = .ok (.invokevirtual 585, 3) := by decide +kernel
theorem dX9_seed_17 : decode cX9_seed 17 = .ok (.ireturn, 1) := by decide +kernel
theorem dX9_seed_18 : decode cX9_seed 18 = .ok (.iload_n 1, 1) := by decide +kernel
theorem dX9_seed_19 : decode cX9_seed 19 = .ok (.iconst 0, 1) := by decide +kernel
theorem dX9_seed_20 : decode cX9_seed 20 = .ok (.ldc_w 563, 3) := by decide +kernel
theorem dX9_seed_23 : decode cX9_seed 23 = .ok (.invokestatic 135, 3) := by decide +kernel
theorem dX9_seed_26 : decode cX9_seed 26 = .ok (.ifCond .ne 9, 3) := by decide +kernel
theorem dX9_seed_29 : decode cX9_seed 29 = .ok (.aload_n 0, 1) := by decide +kernel
theorem dX9_seed_30 : decode cX9_seed 30 = .ok (.iconst 2, 1) := by decide +kernel
theorem dX9_seed_31 : decode cX9_seed 31 = .ok (.invokevirtual 585, 3) := by decide +kernel
theorem dX9_seed_34 : decode cX9_seed 34 = .ok (.ireturn, 1) := by decide +kernel
theorem dX9_seed_35 : decode cX9_seed 35 = .ok (.aload_n 0, 1) := by decide +kernel
theorem dX9_seed_36 : decode cX9_seed 36 = .ok (.getfield 21, 3) := by decide +kernel
theorem dX9_seed_39 : decode cX9_seed 39 = .ok (.sipush 295, 3) := by decide +kernel
theorem dX9_seed_42 : decode cX9_seed 42 = .ok (.iload_n 1, 1) := by decide +kernel
theorem dX9_seed_43 : decode cX9_seed 43 = .ok (.iastore, 1) := by decide +kernel
theorem dX9_seed_44 : decode cX9_seed 44 = .ok (.aload_n 0, 1) := by decide +kernel
theorem dX9_seed_45 : decode cX9_seed 45 = .ok (.invokevirtual 588, 3) := by decide +kernel
theorem dX9_seed_48 : decode cX9_seed 48 = .ok (.ireturn, 1) := by decide +kernel
theorem dX9_undo_0 : decode cX9_undo 0 = .ok (.aload_n 0, 1) := by decide +kernel
theorem dX9_undo_1 : decode cX9_undo 1 = .ok (.iconst 0, 1) := by decide +kernel
theorem dX9_undo_2 : decode cX9_undo 2 = .ok (.putfield 54, 3) := by decide +kernel
theorem dX9_undo_5 : decode cX9_undo 5 = .ok (.aload_n 0, 1) := by decide +kernel
theorem dX9_undo_6 : decode cX9_undo 6 = .ok (.getfield 389, 3) := by decide +kernel
theorem dX9_undo_9 : decode cX9_undo 9 = .ok (.ifnull 10, 3) := by decide +kernel
theorem dX9_undo_12 : decode cX9_undo 12 = .ok (.aload_n 0, 1) := by decide +kernel
theorem dX9_undo_13 : decode cX9_undo 13 = .ok (.getfield 395, 3) := by decide +kernel
theorem dX9_undo_16 : decode cX9_undo 16 = .ok (.ifCond .ne 10, 3) := by decide +kernel
theorem dX9_undo_19 : decode cX9_undo 19 = .ok (.aload_n 0, 1) := by decide +kernel
theorem dX9_undo_20 : decode cX9_undo 20 = .ok (.bipush 6, 2) := by decide +kernel
theorem dX9_undo_22 : decode cX9_undo 22 = .ok (.invokevirtual 585, 3) := by decide +kernel
theorem dX9_undo_25 : decode cX9_undo 25 = .ok (.ireturn, 1) := by decide +kernel
theorem dX9_undo_26 : decode cX9_undo 26 = .ok (.aload_n 0, 1) := by decide +kernel
theorem dX9_undo_27 : decode cX9_undo 27 = .ok (.dup, 1) := by decide +kernel
theorem dX9_undo_28 : decode cX9_undo 28 = .ok (.getfield 395, 3) := by decide +kernel
theorem dX9_undo_31 : decode cX9_undo 31 = .ok (.iconst 1, 1) := by decide +kernel
theorem dX9_undo_32 : decode cX9_undo 32 = .ok (.isub, 1) := by decide +kernel
theorem dX9_undo_33 : decode cX9_undo 33 = .ok (.putfield 395, 3) := by decide +kernel
theorem dX9_undo_36 : decode cX9_undo 36 = .ok (.iconst 0, 1) := by decide +kernel
theorem dX9_undo_37 : decode cX9_undo 37 = .ok (.istore_n 1, 1) := by decide +kernel
theorem dX9_undo_38 : decode cX9_undo 38 = .ok (.iload_n 1, 1) := by decide +kernel
theorem dX9_undo_39 : decode cX9_undo 39 = .ok (.sipush 298, 3) := by decide +kernel
theorem dX9_undo_42 : decode cX9_undo 42 = .ok (.if_icmp .ge 30, 3) := by decide +kernel
theorem dX9_undo_45 : decode cX9_undo 45 = .ok (.aload_n 0, 1) := by decide +kernel
theorem dX9_undo_46 : decode cX9_undo 46 = .ok (.getfield 21, 3) := by decide +kernel
theorem dX9_undo_49 : decode cX9_undo 49 = .ok (.iload_n 1, 1) := by decide +kernel
theorem dX9_undo_50 : decode cX9_undo 50 = .ok (.aload_n 0, 1) := by decide +kernel
theorem dX9_undo_51 : decode cX9_undo 51 = .ok (.getfield 27, 3) := by decide +kernel
theorem dX9_undo_54 : decode cX9_undo 54 = .ok (.sipush 298, 3) := by decide +kernel
theorem dX9_undo_57 : decode cX9_undo 57 = .ok (.aload_n 0, 1) := by decide +kernel
theorem dX9_undo_58 : decode cX9_undo 58 = .ok (.getfield 395, 3) := by decide +kernel
theorem dX9_undo_61 : decode cX9_undo 61 = .ok (.imul, 1) := by decide +kernel
theorem dX9_undo_62 : decode cX9_undo 62 = .ok (.iload_n 1, 1) := by decide +kernel
theorem dX9_undo_63 : decode cX9_undo 63 = .ok (.iadd, 1) := by decide +kernel
theorem dX9_undo_64 : decode cX9_undo 64 = .ok (.iaload, 1) := by decide +kernel
theorem dX9_undo_65 : decode cX9_undo 65 = .ok (.iastore, 1) := by decide +kernel
theorem dX9_undo_66 : decode cX9_undo 66 = .ok (.iinc 1 1, 3) := by decide +kernel
theorem dX9_undo_69 : decode cX9_undo 69 = .ok (.goto (-31), 3) := by decide +kernel
theorem dX9_undo_72 : decode cX9_undo 72 = .ok (.aload_n 0, 1) := by decide +kernel
theorem dX9_undo_73 : decode cX9_undo 73 = .ok (.invokevirtual 588, 3) := by decide +kernel
theorem dX9_undo_76 : decode cX9_undo 76 = .ok (.ireturn, 1) := by decide +kernel
theorem dX9_mark_0 : decode cX9_mark 0 = .ok (.aload_n 0, 1) := by decide +kernel
theorem dX9_mark_1 : decode cX9_mark 1 = .ok (.iconst 0, 1) := by decide +kernel
theorem dX9_mark_2 : decode cX9_mark 2 = .ok (.putfield 54, 3) := by decide +kernel
theorem dX9_mark_5 : decode cX9_mark 5 = .ok (.aload_n 0, 1) := by decide +kernel
theorem dX9_mark_6 : decode cX9_mark 6 = .ok (.getfield 389, 3) := by decide +kernel
theorem dX9_mark_9 : decode cX9_mark 9 = .ok (.ifnonnull 9, 3) := by decide +kernel
theorem dX9_mark_12 : decode cX9_mark 12 = .ok (.aload_n 0, 1) := by decide +kernel
theorem dX9_mark_13 : decode cX9_mark 13 = .ok (.iconst 1, 1) := by decide +kernel
theorem dX9_mark_14 : decode cX9_mark 14 = .ok (.invokevirtual 60, 3) := by decide +kernel
theorem dX9_mark_17 : decode cX9_mark 17 = .ok (.ireturn, 1) := by decide +kernel
theorem dX9_mark_18 : decode cX9_mark 18 = .ok (.aload_n 0, 1) := by decide +kernel
theorem dX9_mark_19 : decode cX9_mark 19 = .ok (.getfield 398, 3) := by decide +kernel
theorem dX9_mark_22 : decode cX9_mark 22 = .ok (.iconst 3, 1) := by decide +kernel
theorem dX9_mark_23 : decode cX9_mark 23 = .ok (.if_icmp .ne 9, 3) := by decide +kernel
theorem dX9_mark_26 : decode cX9_mark 26 = .ok (.aload_n 0, 1) := by decide +kernel
theorem dX9_mark_27 : decode cX9_mark 27 = .ok (.iconst 3, 1) := by decide +kernel
theorem dX9_mark_28 : decode cX9_mark 28 = .ok (.invokevirtual 60, 3) := by decide +kernel
theorem dX9_mark_31 : decode cX9_mark 31 = .ok (.ireturn, 1) := by decide +kernel
theorem dX9_mark_32 : decode cX9_mark 32 = .ok (.iconst 0, 1) := by decide +kernel
theorem dX9_mark_33 : decode cX9_mark 33 = .ok (.istore_n 1, 1) := by decide +kernel
theorem dX9_mark_34 : decode cX9_mark 34 = .ok (.iload_n 1, 1) := by decide +kernel
theorem dX9_mark_35 : decode cX9_mark 35 = .ok (.sipush 298, 3) := by decide +kernel
theorem dX9_mark_38 : decode cX9_mark 38 = .ok (.if_icmp .ge 30, 3) := by decide +kernel
theorem dX9_mark_41 : decode cX9_mark 41 = .ok (.aload_n 0, 1) := by decide +kernel
theorem dX9_mark_42 : decode cX9_mark 42 = .ok (.getfield 30, 3) := by decide +kernel
theorem dX9_mark_45 : decode cX9_mark 45 = .ok (.sipush 298, 3) := by decide +kernel
theorem dX9_mark_48 : decode cX9_mark 48 = .ok (.aload_n 0, 1) := by decide +kernel
theorem dX9_mark_49 : decode cX9_mark 49 = .ok (.getfield 398, 3) := by decide +kernel
theorem dX9_mark_52 : decode cX9_mark 52 = .ok (.imul, 1) := by decide +kernel
theorem dX9_mark_53 : decode cX9_mark 53 = .ok (.iload_n 1, 1) := by decide +kernel
theorem dX9_mark_54 : decode cX9_mark 54 = .ok (.iadd, 1) := by decide +kernel
theorem dX9_mark_55 : decode cX9_mark 55 = .ok (.aload_n 0, 1) := by decide +kernel
theorem dX9_mark_56 : decode cX9_mark 56 = .ok (.getfield 21, 3) := by decide +kernel
theorem dX9_mark_59 : decode cX9_mark 59 = .ok (.iload_n 1, 1) := by decide +kernel
theorem dX9_mark_60 : decode cX9_mark 60 = .ok (.iaload, 1) := by decide +kernel
theorem dX9_mark_61 : decode cX9_mark 61 = .ok (.iastore, 1) := by decide +kernel
theorem dX9_mark_62 : decode cX9_mark 62 = .ok (.iinc 1 1, 3) := by decide +kernel
theorem dX9_mark_65 : decode cX9_mark 65 = .ok (.goto (-31), 3) := by decide +kernel
theorem dX9_mark_68 : decode cX9_mark 68 = .ok (.aload_n 0, 1) := by decide +kernel
theorem dX9_mark_69 : decode cX9_mark 69 = .ok (.dup, 1) := by decide +kernel
theorem dX9_mark_70 : decode cX9_mark 70 = .ok (.getfield 398, 3) := by decide +kernel
theorem dX9_mark_73 : decode cX9_mark 73 = .ok (.iconst 1, 1) := by decide +kernel
theorem dX9_mark_74 : decode cX9_mark 74 = .ok (.iadd, 1) := by decide +kernel
theorem dX9_mark_75 : decode cX9_mark 75 = .ok (.putfield 398, 3) := by decide +kernel
theorem dX9_mark_78 : decode cX9_mark 78 = .ok (.aload_n 0, 1) := by decide +kernel
theorem dX9_mark_79 : decode cX9_mark 79 = .ok (.aload_n 0, 1) := by decide +kernel
theorem dX9_mark_80 : decode cX9_mark 80 = .ok (.getfield 398, 3) := by decide +kernel
theorem dX9_mark_83 : decode cX9_mark 83 = .ok (.iconst 1, 1) := by decide +kernel
theorem dX9_mark_84 : decode cX9_mark 84 = .ok (.isub, 1) := by decide +kernel
theorem dX9_mark_85 : decode cX9_mark 85 = .ok (.invokevirtual 64, 3) := by decide +kernel
theorem dX9_mark_88 : decode cX9_mark 88 = .ok (.ireturn, 1) := by decide +kernel
theorem dX9_back_0 : decode cX9_back 0 = .ok (.aload_n 0, 1) := by decide +kernel
theorem dX9_back_1 : decode cX9_back 1 = .ok (.iconst 0, 1) := by decide +kernel
theorem dX9_back_2 : decode cX9_back 2 = .ok (.putfield 54, 3) := by decide +kernel
theorem dX9_back_5 : decode cX9_back 5 = .ok (.aload_n 0, 1) := by decide +kernel
theorem dX9_back_6 : decode cX9_back 6 = .ok (.getfield 389, 3) := by decide +kernel
theorem dX9_back_9 : decode cX9_back 9 = .ok (.ifnull 15, 3) := by decide +kernel
theorem dX9_back_12 : decode cX9_back 12 = .ok (.iload_n 1, 1) := by decide +kernel
theorem dX9_back_13 : decode cX9_back 13 = .ok (.ifCond .lt 11, 3) := by decide +kernel
theorem dX9_back_16 : decode cX9_back 16 = .ok (.iload_n 1, 1) := by decide +kernel
theorem dX9_back_17 : decode cX9_back 17 = .ok (.aload_n 0, 1) := by decide +kernel
theorem dX9_back_18 : decode cX9_back 18 = .ok (.getfield 398, 3) := by decide +kernel
theorem dX9_back_21 : decode cX9_back 21 = .ok (.if_icmp .lt 9, 3) := by decide +kernel
theorem dX9_back_24 : decode cX9_back 24 = .ok (.aload_n 0, 1) := by decide +kernel
theorem dX9_back_25 : decode cX9_back 25 = .ok (.iconst 1, 1) := by decide +kernel
theorem dX9_back_26 : decode cX9_back 26 = .ok (.invokevirtual 585, 3) := by decide +kernel
theorem dX9_back_29 : decode cX9_back 29 = .ok (.ireturn, 1) := by decide +kernel
theorem dX9_back_30 : decode cX9_back 30 = .ok (.iconst 0, 1) := by decide +kernel
theorem dX9_back_31 : decode cX9_back 31 = .ok (.istore_n 2, 1) := by decide +kernel
theorem dX9_back_32 : decode cX9_back 32 = .ok (.iload_n 2, 1) := by decide +kernel
theorem dX9_back_33 : decode cX9_back 33 = .ok (.sipush 298, 3) := by decide +kernel
theorem dX9_back_36 : decode cX9_back 36 = .ok (.if_icmp .ge 27, 3) := by decide +kernel
theorem dX9_back_39 : decode cX9_back 39 = .ok (.aload_n 0, 1) := by decide +kernel
theorem dX9_back_40 : decode cX9_back 40 = .ok (.getfield 21, 3) := by decide +kernel
theorem dX9_back_43 : decode cX9_back 43 = .ok (.iload_n 2, 1) := by decide +kernel
theorem dX9_back_44 : decode cX9_back 44 = .ok (.aload_n 0, 1) := by decide +kernel
theorem dX9_back_45 : decode cX9_back 45 = .ok (.getfield 30, 3) := by decide +kernel
theorem dX9_back_48 : decode cX9_back 48 = .ok (.sipush 298, 3) := by decide +kernel
theorem dX9_back_51 : decode cX9_back 51 = .ok (.iload_n 1, 1) := by decide +kernel
theorem dX9_back_52 : decode cX9_back 52 = .ok (.imul, 1) := by decide +kernel
theorem dX9_back_53 : decode cX9_back 53 = .ok (.iload_n 2, 1) := by decide +kernel
theorem dX9_back_54 : decode cX9_back 54 = .ok (.iadd, 1) := by decide +kernel
theorem dX9_back_55 : decode cX9_back 55 = .ok (.iaload, 1) := by decide +kernel
theorem dX9_back_56 : decode cX9_back 56 = .ok (.iastore, 1) := by decide +kernel
theorem dX9_back_57 : decode cX9_back 57 = .ok (.iinc 2 1, 3) := by decide +kernel
theorem dX9_back_60 : decode cX9_back 60 = .ok (.goto (-28), 3) := by decide +kernel
theorem dX9_back_63 : decode cX9_back 63 = .ok (.aload_n 0, 1) := by decide +kernel
theorem dX9_back_64 : decode cX9_back 64 = .ok (.iconst 0, 1) := by decide +kernel
theorem dX9_back_65 : decode cX9_back 65 = .ok (.putfield 395, 3) := by decide +kernel
theorem dX9_back_68 : decode cX9_back 68 = .ok (.aload_n 0, 1) := by decide +kernel
theorem dX9_back_69 : decode cX9_back 69 = .ok (.invokevirtual 588, 3) := by decide +kernel
theorem dX9_back_72 : decode cX9_back 72 = .ok (.ireturn, 1) := by decide +kernel
theorem dX9_table_0 : decode cX9_table 0 = .ok (.aload_n 0, 1) := by decide +kernel
theorem dX9_table_1 : decode cX9_table 1 = .ok (.iconst 0, 1) := by decide +kernel
theorem dX9_table_2 : decode cX9_table 2 = .ok (.putfield 54, 3) := by decide +kernel
theorem dX9_table_5 : decode cX9_table 5 = .ok (.aload_n 0, 1) := by decide +kernel
theorem dX9_table_6 : decode cX9_table 6 = .ok (.iload_n 1, 1) := by decide +kernel
theorem dX9_table_7 : decode cX9_table 7 = .ok (.invokevirtual 514, 3) := by decide +kernel
theorem dX9_table_10 : decode cX9_table 10 = .ok (.ifCond .eq 12, 3) := by decide +kernel
theorem dX9_table_13 : decode cX9_table 13 = .ok (.iload_n 2, 1) := by decide +kernel
theorem dX9_table_14 : decode cX9_table 14 = .ok (.iconst 0, 1) := by decide +kernel
theorem dX9_table_15 : decode cX9_table 15 = .ok (.iconst 4, 1) := by decide +kernel
theorem dX9_table_16 : decode cX9_table 16 = .ok (.invokestatic 135, 3) := by decide +kernel
theorem dX9_table_19 : decode cX9_table 19 = .ok (.ifCond .ne 9, 3) := by decide +kernel
theorem dX9_table_22 : decode cX9_table 22 = .ok (.aload_n 0, 1) := by decide +kernel
theorem dX9_table_23 : decode cX9_table 23 = .ok (.iconst 1, 1) := by decide +kernel
theorem dX9_table_24 : decode cX9_table 24 = .ok (.invokevirtual 60, 3) := by decide +kernel
theorem dX9_table_27 : decode cX9_table 27 = .ok (.ireturn, 1) := by decide +kernel
theorem dX9_table_28 : decode cX9_table 28 = .ok (.iload_n 2, 1) := by decide +kernel
theorem dX9_table_29 : decode cX9_table 29 = .ok (.tableswitch 87 0 3 #[31, 45, 59, 73], 31) := by decide +kernel
theorem dX9_table_60 : decode cX9_table 60 = .ok (.aload_n 0, 1) := by decide +kernel
theorem dX9_table_61 : decode cX9_table 61 = .ok (.aload_n 0, 1) := by decide +kernel
theorem dX9_table_62 : decode cX9_table 62 = .ok (.getfield 389, 3) := by decide +kernel
theorem dX9_table_65 : decode cX9_table 65 = .ok (.getfield 335, 3) := by decide +kernel
theorem dX9_table_68 : decode cX9_table 68 = .ok (.iload_n 1, 1) := by decide +kernel
theorem dX9_table_69 : decode cX9_table 69 = .ok (.iaload, 1) := by decide +kernel
theorem dX9_table_70 : decode cX9_table 70 = .ok (.invokevirtual 64, 3) := by decide +kernel
theorem dX9_table_73 : decode cX9_table 73 = .ok (.ireturn, 1) := by decide +kernel
theorem dX9_table_74 : decode cX9_table 74 = .ok (.aload_n 0, 1) := by decide +kernel
theorem dX9_table_75 : decode cX9_table 75 = .ok (.aload_n 0, 1) := by decide +kernel
theorem dX9_table_76 : decode cX9_table 76 = .ok (.getfield 389, 3) := by decide +kernel
theorem dX9_table_79 : decode cX9_table 79 = .ok (.getfield 340, 3) := by decide +kernel
theorem dX9_table_82 : decode cX9_table 82 = .ok (.iload_n 1, 1) := by decide +kernel
theorem dX9_table_83 : decode cX9_table 83 = .ok (.iaload, 1) := by decide +kernel
theorem dX9_table_84 : decode cX9_table 84 = .ok (.invokevirtual 64, 3) := by decide +kernel
theorem dX9_table_87 : decode cX9_table 87 = .ok (.ireturn, 1) := by decide +kernel
theorem dX9_table_88 : decode cX9_table 88 = .ok (.aload_n 0, 1) := by decide +kernel
theorem dX9_table_89 : decode cX9_table 89 = .ok (.aload_n 0, 1) := by decide +kernel
theorem dX9_table_90 : decode cX9_table 90 = .ok (.getfield 389, 3) := by decide +kernel
theorem dX9_table_93 : decode cX9_table 93 = .ok (.getfield 343, 3) := by decide +kernel
theorem dX9_table_96 : decode cX9_table 96 = .ok (.iload_n 1, 1) := by decide +kernel
theorem dX9_table_97 : decode cX9_table 97 = .ok (.iaload, 1) := by decide +kernel
theorem dX9_table_98 : decode cX9_table 98 = .ok (.invokevirtual 64, 3) := by decide +kernel
theorem dX9_table_101 : decode cX9_table 101 = .ok (.ireturn, 1) := by decide +kernel
theorem dX9_table_102 : decode cX9_table 102 = .ok (.aload_n 0, 1) := by decide +kernel
theorem dX9_table_103 : decode cX9_table 103 = .ok (.aload_n 0, 1) := by decide +kernel
theorem dX9_table_104 : decode cX9_table 104 = .ok (.getfield 389, 3) := by decide +kernel
theorem dX9_table_107 : decode cX9_table 107 = .ok (.getfield 346, 3) := by decide +kernel
theorem dX9_table_110 : decode cX9_table 110 = .ok (.iload_n 1, 1) := by decide +kernel
theorem dX9_table_111 : decode cX9_table 111 = .ok (.iaload, 1) := by decide +kernel
theorem dX9_table_112 : decode cX9_table 112 = .ok (.invokevirtual 64, 3) := by decide +kernel
theorem dX9_table_115 : decode cX9_table 115 = .ok (.ireturn, 1) := by decide +kernel
theorem dX9_table_116 : decode cX9_table 116 = .ok (.aload_n 0, 1) := by decide +kernel
theorem dX9_table_117 : decode cX9_table 117 = .ok (.aload_n 0, 1) := by decide +kernel
theorem dX9_table_118 : decode cX9_table 118 = .ok (.getfield 389, 3) := by decide +kernel
theorem dX9_table_121 : decode cX9_table 121 = .ok (.getfield 349, 3) := by decide +kernel
theorem dX9_table_124 : decode cX9_table 124 = .ok (.iload_n 1, 1) := by decide +kernel
theorem dX9_table_125 : decode cX9_table 125 = .ok (.iaload, 1) := by decide +kernel
theorem dX9_table_126 : decode cX9_table 126 = .ok (.invokevirtual 64, 3) := by decide +kernel
theorem dX9_table_129 : decode cX9_table 129 = .ok (.ireturn, 1) := by decide +kernel
theorem dX9_steps_0 : decode cX9_steps 0 = .ok (.aload_n 0, 1) := by decide +kernel
theorem dX9_steps_1 : decode cX9_steps 1 = .ok (.iconst 0, 1) := by decide +kernel
theorem dX9_steps_2 : decode cX9_steps 2 = .ok (.putfield 54, 3) := by decide +kernel
theorem dX9_steps_5 : decode cX9_steps 5 = .ok (.aload_n 0, 1) := by decide +kernel
theorem dX9_steps_6 : decode cX9_steps 6 = .ok (.getfield 389, 3) := by decide +kernel
theorem dX9_steps_9 : decode cX9_steps 9 = .ok (.ifnull 34, 3) := by decide +kernel
theorem dX9_steps_12 : decode cX9_steps 12 = .ok (.iload_n 1, 1) := by decide +kernel
theorem dX9_steps_13 : decode cX9_steps 13 = .ok (.ifCond .lt 30, 3) := by decide +kernel
theorem dX9_steps_16 : decode cX9_steps 16 = .ok (.iload_n 1, 1) := by decide +kernel
theorem dX9_steps_17 : decode cX9_steps 17 = .ok (.aload_n 0, 1) := by decide +kernel
theorem dX9_steps_18 : decode cX9_steps 18 = .ok (.getfield 389, 3) := by decide +kernel
theorem dX9_steps_21 : decode cX9_steps 21 = .ok (.getfield 206, 3) := by decide +kernel
theorem dX9_steps_24 : decode cX9_steps 24 = .ok (.if_icmp .ge 19, 3) := by decide +kernel
theorem dX9_steps_27 : decode cX9_steps 27 = .ok (.aload_n 0, 1) := by decide +kernel
theorem dX9_steps_28 : decode cX9_steps 28 = .ok (.aload_n 0, 1) := by decide +kernel
theorem dX9_steps_29 : decode cX9_steps 29 = .ok (.getfield 389, 3) := by decide +kernel
theorem dX9_steps_32 : decode cX9_steps 32 = .ok (.getfield 289, 3) := by decide +kernel
theorem dX9_steps_35 : decode cX9_steps 35 = .ok (.iload_n 1, 1) := by decide +kernel
theorem dX9_steps_36 : decode cX9_steps 36 = .ok (.iaload, 1) := by decide +kernel
theorem dX9_steps_37 : decode cX9_steps 37 = .ok (.invokevirtual 64, 3) := by decide +kernel
theorem dX9_steps_40 : decode cX9_steps 40 = .ok (.goto 8, 3) := by decide +kernel
theorem dX9_steps_43 : decode cX9_steps 43 = .ok (.aload_n 0, 1) := by decide +kernel
theorem dX9_steps_44 : decode cX9_steps 44 = .ok (.iconst 1, 1) := by decide +kernel
theorem dX9_steps_45 : decode cX9_steps 45 = .ok (.invokevirtual 60, 3) := by decide +kernel
theorem dX9_steps_48 : decode cX9_steps 48 = .ok (.ireturn, 1) := by decide +kernel
theorem dX9_led_0 : decode cX9_led 0 = .ok (.aload_n 0, 1) := by decide +kernel
theorem dX9_led_1 : decode cX9_led 1 = .ok (.iconst 0, 1) := by decide +kernel
theorem dX9_led_2 : decode cX9_led 2 = .ok (.putfield 54, 3) := by decide +kernel
theorem dX9_led_5 : decode cX9_led 5 = .ok (.iconst 0, 1) := by decide +kernel
theorem dX9_led_6 : decode cX9_led 6 = .ok (.istore_n 2, 1) := by decide +kernel
theorem dX9_led_7 : decode cX9_led 7 = .ok (.iconst 0, 1) := by decide +kernel
theorem dX9_led_8 : decode cX9_led 8 = .ok (.istore_n 3, 1) := by decide +kernel
theorem dX9_led_9 : decode cX9_led 9 = .ok (.aload_n 0, 1) := by decide +kernel
theorem dX9_led_10 : decode cX9_led 10 = .ok (.getfield 389, 3) := by decide +kernel
theorem dX9_led_13 : decode cX9_led 13 = .ok (.ifnull 63, 3) := by decide +kernel
theorem dX9_led_16 : decode cX9_led 16 = .ok (.iload_n 3, 1) := by decide +kernel
theorem dX9_led_17 : decode cX9_led 17 = .ok (.aload_n 0, 1) := by decide +kernel
theorem dX9_led_18 : decode cX9_led 18 = .ok (.getfield 21, 3) := by decide +kernel
theorem dX9_led_21 : decode cX9_led 21 = .ok (.sipush 289, 3) := by decide +kernel
theorem dX9_led_24 : decode cX9_led 24 = .ok (.iaload, 1) := by decide +kernel
theorem dX9_led_25 : decode cX9_led 25 = .ok (.if_icmp .ge 51, 3) := by decide +kernel
theorem dX9_led_28 : decode cX9_led 28 = .ok (.aload_n 0, 1) := by decide +kernel
theorem dX9_led_29 : decode cX9_led 29 = .ok (.getfield 389, 3) := by decide +kernel
theorem dX9_led_32 : decode cX9_led 32 = .ok (.getfield 275, 3) := by decide +kernel
theorem dX9_led_35 : decode cX9_led 35 = .ok (.aload_n 0, 1) := by decide +kernel
theorem dX9_led_36 : decode cX9_led 36 = .ok (.getfield 21, 3) := by decide +kernel
theorem dX9_led_39 : decode cX9_led 39 = .ok (.iload_n 3, 1) := by decide +kernel
theorem dX9_led_40 : decode cX9_led 40 = .ok (.invokestatic 409, 3) := by decide +kernel
theorem dX9_led_43 : decode cX9_led 43 = .ok (.iaload, 1) := by decide +kernel
theorem dX9_led_44 : decode cX9_led 44 = .ok (.iconst 1, 1) := by decide +kernel
theorem dX9_led_45 : decode cX9_led 45 = .ok (.if_icmp .eq 6, 3) := by decide +kernel
theorem dX9_led_48 : decode cX9_led 48 = .ok (.goto 22, 3) := by decide +kernel
theorem dX9_led_51 : decode cX9_led 51 = .ok (.iload_n 2, 1) := by decide +kernel
theorem dX9_led_52 : decode cX9_led 52 = .ok (.iload_n 1, 1) := by decide +kernel
theorem dX9_led_53 : decode cX9_led 53 = .ok (.if_icmp .ne 14, 3) := by decide +kernel
theorem dX9_led_56 : decode cX9_led 56 = .ok (.aload_n 0, 1) := by decide +kernel
theorem dX9_led_57 : decode cX9_led 57 = .ok (.getfield 21, 3) := by decide +kernel
theorem dX9_led_60 : decode cX9_led 60 = .ok (.sipush 204, 3) := by decide +kernel
theorem dX9_led_63 : decode cX9_led 63 = .ok (.iload_n 3, 1) := by decide +kernel
theorem dX9_led_64 : decode cX9_led 64 = .ok (.iadd, 1) := by decide +kernel
theorem dX9_led_65 : decode cX9_led 65 = .ok (.iaload, 1) := by decide +kernel
theorem dX9_led_66 : decode cX9_led 66 = .ok (.ireturn, 1) := by decide +kernel
theorem dX9_led_67 : decode cX9_led 67 = .ok (.iinc 2 1, 3) := by decide +kernel
theorem dX9_led_70 : decode cX9_led 70 = .ok (.iinc 3 1, 3) := by decide +kernel
theorem dX9_led_73 : decode cX9_led 73 = .ok (.goto (-64), 3) := by decide +kernel
theorem dX9_led_76 : decode cX9_led 76 = .ok (.aload_n 0, 1) := by decide +kernel
theorem dX9_led_77 : decode cX9_led 77 = .ok (.iconst 1, 1) := by decide +kernel
theorem dX9_led_78 : decode cX9_led 78 = .ok (.putfield 54, 3) := by decide +kernel
theorem dX9_led_81 : decode cX9_led 81 = .ok (.iconst 0, 1) := by decide +kernel
theorem dX9_led_82 : decode cX9_led 82 = .ok (.ireturn, 1) := by decide +kernel
theorem dX9_size_0 : decode cX9_size 0 = .ok (.aload_n 0, 1) := by decide +kernel
theorem dX9_size_1 : decode cX9_size 1 = .ok (.iconst 0, 1) := by decide +kernel
theorem dX9_size_2 : decode cX9_size 2 = .ok (.putfield 54, 3) := by decide +kernel
theorem dX9_size_5 : decode cX9_size 5 = .ok (.iload_n 1, 1) := by decide +kernel
theorem dX9_size_6 : decode cX9_size 6 = .ok (.bipush 15, 2) := by decide +kernel
theorem dX9_size_8 : decode cX9_size 8 = .ok (.if_icmp .ne 8, 3) := by decide +kernel
theorem dX9_size_11 : decode cX9_size 11 = .ok (.aload_n 0, 1) := by decide +kernel
theorem dX9_size_12 : decode cX9_size 12 = .ok (.getfield 382, 3) := by decide +kernel
theorem dX9_size_15 : decode cX9_size 15 = .ok (.ireturn, 1) := by decide +kernel
theorem dX9_size_16 : decode cX9_size 16 = .ok (.iload_n 1, 1) := by decide +kernel
theorem dX9_size_17 : decode cX9_size 17 = .ok (.iconst 0, 1) := by decide +kernel
theorem dX9_size_18 : decode cX9_size 18 = .ok (.bipush 14, 2) := by decide +kernel
theorem dX9_size_20 : decode cX9_size 20 = .ok (.invokestatic 135, 3) := by decide +kernel
theorem dX9_size_23 : decode cX9_size 23 = .ok (.ifCond .ne 5, 3) := by decide +kernel
theorem dX9_size_26 : decode cX9_size 26 = .ok (.iconst (-1), 1) := by decide +kernel
theorem dX9_size_27 : decode cX9_size 27 = .ok (.ireturn, 1) := by decide +kernel
theorem dX9_size_28 : decode cX9_size 28 = .ok (.aload_n 0, 1) := by decide +kernel
theorem dX9_size_29 : decode cX9_size 29 = .ok (.getfield 389, 3) := by decide +kernel
theorem dX9_size_32 : decode cX9_size 32 = .ok (.ifnonnull 5, 3) := by decide +kernel
theorem dX9_size_35 : decode cX9_size 35 = .ok (.iconst 0, 1) := by decide +kernel
theorem dX9_size_36 : decode cX9_size 36 = .ok (.ireturn, 1) := by decide +kernel
theorem dX9_size_37 : decode cX9_size 37 = .ok (.iload_n 1, 1) := by decide +kernel
theorem dX9_size_38 : decode cX9_size 38 = .ok (.tableswitch 200 0 13 #[70, 78, 86, 102, 118, 126, 134, 142, 151, 160, 169, 178, 187, 195], 70) := by decide +kernel
theorem dX9_size_108 : decode cX9_size 108 = .ok (.aload_n 0, 1) := by decide +kernel
theorem dX9_size_109 : decode cX9_size 109 = .ok (.getfield 389, 3) := by decide +kernel
theorem dX9_size_112 : decode cX9_size 112 = .ok (.getfield 154, 3) := by decide +kernel
theorem dX9_size_115 : decode cX9_size 115 = .ok (.ireturn, 1) := by decide +kernel
theorem dX9_size_116 : decode cX9_size 116 = .ok (.aload_n 0, 1) := by decide +kernel
theorem dX9_size_117 : decode cX9_size 117 = .ok (.getfield 389, 3) := by decide +kernel
theorem dX9_size_120 : decode cX9_size 120 = .ok (.getfield 161, 3) := by decide +kernel
theorem dX9_size_123 : decode cX9_size 123 = .ok (.ireturn, 1) := by decide +kernel
theorem dX9_size_124 : decode cX9_size 124 = .ok (.aload_n 0, 1) := by decide +kernel
theorem dX9_size_125 : decode cX9_size 125 = .ok (.getfield 389, 3) := by decide +kernel
theorem dX9_size_128 : decode cX9_size 128 = .ok (.getfield 263, 3) := by decide +kernel
theorem dX9_size_131 : decode cX9_size 131 = .ok (.ifCond .eq 7, 3) := by decide +kernel
theorem dX9_size_134 : decode cX9_size 134 = .ok (.iconst 1, 1) := by decide +kernel
theorem dX9_size_135 : decode cX9_size 135 = .ok (.goto 4, 3) := by decide +kernel
theorem dX9_size_138 : decode cX9_size 138 = .ok (.iconst 0, 1) := by decide +kernel
theorem dX9_size_139 : decode cX9_size 139 = .ok (.ireturn, 1) := by decide +kernel
theorem dX9_size_140 : decode cX9_size 140 = .ok (.aload_n 0, 1) := by decide +kernel
theorem dX9_size_141 : decode cX9_size 141 = .ok (.getfield 389, 3) := by decide +kernel
theorem dX9_size_144 : decode cX9_size 144 = .ok (.getfield 266, 3) := by decide +kernel
theorem dX9_size_147 : decode cX9_size 147 = .ok (.ifCond .eq 7, 3) := by decide +kernel
theorem dX9_size_150 : decode cX9_size 150 = .ok (.iconst 1, 1) := by decide +kernel
theorem dX9_size_151 : decode cX9_size 151 = .ok (.goto 4, 3) := by decide +kernel
theorem dX9_size_154 : decode cX9_size 154 = .ok (.iconst 0, 1) := by decide +kernel
theorem dX9_size_155 : decode cX9_size 155 = .ok (.ireturn, 1) := by decide +kernel
theorem dX9_size_156 : decode cX9_size 156 = .ok (.aload_n 0, 1) := by decide +kernel
theorem dX9_size_157 : decode cX9_size 157 = .ok (.getfield 389, 3) := by decide +kernel
theorem dX9_size_160 : decode cX9_size 160 = .ok (.getfield 311, 3) := by decide +kernel
theorem dX9_size_163 : decode cX9_size 163 = .ok (.ireturn, 1) := by decide +kernel
theorem dX9_size_164 : decode cX9_size 164 = .ok (.aload_n 0, 1) := by decide +kernel
theorem dX9_size_165 : decode cX9_size 165 = .ok (.getfield 389, 3) := by decide +kernel
theorem dX9_size_168 : decode cX9_size 168 = .ok (.getfield 206, 3) := by decide +kernel
theorem dX9_size_171 : decode cX9_size 171 = .ok (.ireturn, 1) := by decide +kernel
theorem dX9_size_172 : decode cX9_size 172 = .ok (.aload_n 0, 1) := by decide +kernel
theorem dX9_size_173 : decode cX9_size 173 = .ok (.getfield 389, 3) := by decide +kernel
theorem dX9_size_176 : decode cX9_size 176 = .ok (.getfield 370, 3) := by decide +kernel
theorem dX9_size_179 : decode cX9_size 179 = .ok (.ireturn, 1) := by decide +kernel
theorem dX9_size_180 : decode cX9_size 180 = .ok (.aload_n 0, 1) := by decide +kernel
theorem dX9_size_181 : decode cX9_size 181 = .ok (.getfield 21, 3) := by decide +kernel
theorem dX9_size_184 : decode cX9_size 184 = .ok (.sipush 291, 3) := by decide +kernel
theorem dX9_size_187 : decode cX9_size 187 = .ok (.iaload, 1) := by decide +kernel
theorem dX9_size_188 : decode cX9_size 188 = .ok (.ireturn, 1) := by decide +kernel
theorem dX9_size_189 : decode cX9_size 189 = .ok (.aload_n 0, 1) := by decide +kernel
theorem dX9_size_190 : decode cX9_size 190 = .ok (.getfield 21, 3) := by decide +kernel
theorem dX9_size_193 : decode cX9_size 193 = .ok (.sipush 292, 3) := by decide +kernel
theorem dX9_size_196 : decode cX9_size 196 = .ok (.iaload, 1) := by decide +kernel
theorem dX9_size_197 : decode cX9_size 197 = .ok (.ireturn, 1) := by decide +kernel
theorem dX9_size_198 : decode cX9_size 198 = .ok (.aload_n 0, 1) := by decide +kernel
theorem dX9_size_199 : decode cX9_size 199 = .ok (.getfield 21, 3) := by decide +kernel
theorem dX9_size_202 : decode cX9_size 202 = .ok (.sipush 294, 3) := by decide +kernel
theorem dX9_size_205 : decode cX9_size 205 = .ok (.iaload, 1) := by decide +kernel
theorem dX9_size_206 : decode cX9_size 206 = .ok (.ireturn, 1) := by decide +kernel
theorem dX9_size_207 : decode cX9_size 207 = .ok (.aload_n 0, 1) := by decide +kernel
theorem dX9_size_208 : decode cX9_size 208 = .ok (.getfield 21, 3) := by decide +kernel
theorem dX9_size_211 : decode cX9_size 211 = .ok (.sipush 295, 3) := by decide +kernel
theorem dX9_size_214 : decode cX9_size 214 = .ok (.iaload, 1) := by decide +kernel
theorem dX9_size_215 : decode cX9_size 215 = .ok (.ireturn, 1) := by decide +kernel
theorem dX9_size_216 : decode cX9_size 216 = .ok (.aload_n 0, 1) := by decide +kernel
theorem dX9_size_217 : decode cX9_size 217 = .ok (.getfield 21, 3) := by decide +kernel
theorem dX9_size_220 : decode cX9_size 220 = .ok (.sipush 296, 3) := by decide +kernel
theorem dX9_size_223 : decode cX9_size 223 = .ok (.iaload, 1) := by decide +kernel
theorem dX9_size_224 : decode cX9_size 224 = .ok (.ireturn, 1) := by decide +kernel
theorem dX9_size_225 : decode cX9_size 225 = .ok (.aload_n 0, 1) := by decide +kernel
theorem dX9_size_226 : decode cX9_size 226 = .ok (.getfield 389, 3) := by decide +kernel
theorem dX9_size_229 : decode cX9_size 229 = .ok (.getfield 287, 3) := by decide +kernel
theorem dX9_size_232 : decode cX9_size 232 = .ok (.ireturn, 1) := by decide +kernel
theorem dX9_size_233 : decode cX9_size 233 = .ok (.aload_n 0, 1) := by decide +kernel
theorem dX9_size_234 : decode cX9_size 234 = .ok (.getfield 395, 3) := by decide +kernel
theorem dX9_size_237 : decode cX9_size 237 = .ok (.ireturn, 1) := by decide +kernel
theorem dX9_size_238 : decode cX9_size 238 = .ok (.aload_n 0, 1) := by decide +kernel
theorem dX9_size_239 : decode cX9_size 239 = .ok (.getfield 398, 3) := by decide +kernel
theorem dX9_size_242 : decode cX9_size 242 = .ok (.ireturn, 1) := by decide +kernel
theorem dX9_trouble_0 : decode cX9_trouble 0 = .ok (.aload_n 0, 1) := by decide +kernel
theorem dX9_trouble_1 : decode cX9_trouble 1 = .ok (.iconst 0, 1) := by decide +kernel
theorem dX9_trouble_2 : decode cX9_trouble 2 = .ok (.putfield 54, 3) := by decide +kernel
theorem dX9_trouble_5 : decode cX9_trouble 5 = .ok (.aload_n 0, 1) := by decide +kernel
theorem dX9_trouble_6 : decode cX9_trouble 6 = .ok (.getfield 57, 3) := by decide +kernel
theorem dX9_trouble_9 : decode cX9_trouble 9 = .ok (.ireturn, 1) := by decide +kernel
theorem dJ6_compare_7cf53_0 : decode cJ6_compare_7cf53 0 = .ok (.iload_n 0, 1) := by decide +kernel
theorem dJ6_compare_7cf53_1 : decode cJ6_compare_7cf53 1 = .ok (.iload_n 1, 1) := by decide +kernel
theorem dJ6_compare_7cf53_2 : decode cJ6_compare_7cf53 2 = .ok (.if_icmp .ge 7, 3) := by decide +kernel
theorem dJ6_compare_7cf53_5 : decode cJ6_compare_7cf53 5 = .ok (.iconst (-1), 1) := by decide +kernel
theorem dJ6_compare_7cf53_6 : decode cJ6_compare_7cf53 6 = .ok (.goto 13, 3) := by decide +kernel
theorem dJ6_compare_7cf53_9 : decode cJ6_compare_7cf53 9 = .ok (.iload_n 0, 1) := by decide +kernel
theorem dJ6_compare_7cf53_10 : decode cJ6_compare_7cf53 10 = .ok (.iload_n 1, 1) := by decide +kernel
theorem dJ6_compare_7cf53_11 : decode cJ6_compare_7cf53 11 = .ok (.if_icmp .ne 7, 3) := by decide +kernel
theorem dJ6_compare_7cf53_14 : decode cJ6_compare_7cf53 14 = .ok (.iconst 0, 1) := by decide +kernel
theorem dJ6_compare_7cf53_15 : decode cJ6_compare_7cf53 15 = .ok (.goto 4, 3) := by decide +kernel
theorem dJ6_compare_7cf53_18 : decode cJ6_compare_7cf53 18 = .ok (.iconst 1, 1) := by decide +kernel
theorem dJ6_compare_7cf53_19 : decode cJ6_compare_7cf53 19 = .ok (.ireturn, 1) := by decide +kernel
theorem dJ9_floorMod_7cf53_0 : decode cJ9_floorMod_7cf53 0 = .ok (.iload_n 0, 1) := by decide +kernel
theorem dJ9_floorMod_7cf53_1 : decode cJ9_floorMod_7cf53 1 = .ok (.iload_n 1, 1) := by decide +kernel
theorem dJ9_floorMod_7cf53_2 : decode cJ9_floorMod_7cf53 2 = .ok (.irem, 1) := by decide +kernel
theorem dJ9_floorMod_7cf53_3 : decode cJ9_floorMod_7cf53 3 = .ok (.istore_n 2, 1) := by decide +kernel
theorem dJ9_floorMod_7cf53_4 : decode cJ9_floorMod_7cf53 4 = .ok (.iload_n 0, 1) := by decide +kernel
theorem dJ9_floorMod_7cf53_5 : decode cJ9_floorMod_7cf53 5 = .ok (.iload_n 1, 1) := by decide +kernel
theorem dJ9_floorMod_7cf53_6 : decode cJ9_floorMod_7cf53 6 = .ok (.ixor, 1) := by decide +kernel
theorem dJ9_floorMod_7cf53_7 : decode cJ9_floorMod_7cf53 7 = .ok (.ifCond .ge 11, 3) := by decide +kernel
theorem dJ9_floorMod_7cf53_10 : decode cJ9_floorMod_7cf53 10 = .ok (.iload_n 2, 1) := by decide +kernel
theorem dJ9_floorMod_7cf53_11 : decode cJ9_floorMod_7cf53 11 = .ok (.ifCond .eq 7, 3) := by decide +kernel
theorem dJ9_floorMod_7cf53_14 : decode cJ9_floorMod_7cf53 14 = .ok (.iload_n 2, 1) := by decide +kernel
theorem dJ9_floorMod_7cf53_15 : decode cJ9_floorMod_7cf53 15 = .ok (.iload_n 1, 1) := by decide +kernel
theorem dJ9_floorMod_7cf53_16 : decode cJ9_floorMod_7cf53 16 = .ok (.iadd, 1) := by decide +kernel
theorem dJ9_floorMod_7cf53_17 : decode cJ9_floorMod_7cf53 17 = .ok (.ireturn, 1) := by decide +kernel
theorem dJ9_floorMod_7cf53_18 : decode cJ9_floorMod_7cf53 18 = .ok (.iload_n 2, 1) := by decide +kernel
theorem dJ9_floorMod_7cf53_19 : decode cJ9_floorMod_7cf53 19 = .ok (.ireturn, 1) := by decide +kernel
theorem dJ9_abs_0f7a4_0 : decode cJ9_abs_0f7a4 0 = .ok (.iload_n 0, 1) := by decide +kernel
theorem dJ9_abs_0f7a4_1 : decode cJ9_abs_0f7a4 1 = .ok (.ifCond .ge 8, 3) := by decide +kernel
theorem dJ9_abs_0f7a4_4 : decode cJ9_abs_0f7a4 4 = .ok (.iload_n 0, 1) := by decide +kernel
theorem dJ9_abs_0f7a4_5 : decode cJ9_abs_0f7a4 5 = .ok (.ineg, 1) := by decide +kernel
theorem dJ9_abs_0f7a4_6 : decode cJ9_abs_0f7a4 6 = .ok (.goto 4, 3) := by decide +kernel
theorem dJ9_abs_0f7a4_9 : decode cJ9_abs_0f7a4 9 = .ok (.iload_n 0, 1) := by decide +kernel
theorem dJ9_abs_0f7a4_10 : decode cJ9_abs_0f7a4 10 = .ok (.ireturn, 1) := by decide +kernel
theorem dJ9_max_7cf53_0 : decode cJ9_max_7cf53 0 = .ok (.iload_n 0, 1) := by decide +kernel
theorem dJ9_max_7cf53_1 : decode cJ9_max_7cf53 1 = .ok (.iload_n 1, 1) := by decide +kernel
theorem dJ9_max_7cf53_2 : decode cJ9_max_7cf53 2 = .ok (.if_icmp .lt 7, 3) := by decide +kernel
theorem dJ9_max_7cf53_5 : decode cJ9_max_7cf53 5 = .ok (.iload_n 0, 1) := by decide +kernel
theorem dJ9_max_7cf53_6 : decode cJ9_max_7cf53 6 = .ok (.goto 4, 3) := by decide +kernel
theorem dJ9_max_7cf53_9 : decode cJ9_max_7cf53 9 = .ok (.iload_n 1, 1) := by decide +kernel
theorem dJ9_max_7cf53_10 : decode cJ9_max_7cf53 10 = .ok (.ireturn, 1) := by decide +kernel
theorem dJ9_min_7cf53_0 : decode cJ9_min_7cf53 0 = .ok (.iload_n 0, 1) := by decide +kernel
theorem dJ9_min_7cf53_1 : decode cJ9_min_7cf53 1 = .ok (.iload_n 1, 1) := by decide +kernel
theorem dJ9_min_7cf53_2 : decode cJ9_min_7cf53 2 = .ok (.if_icmp .gt 7, 3) := by decide +kernel
theorem dJ9_min_7cf53_5 : decode cJ9_min_7cf53 5 = .ok (.iload_n 0, 1) := by decide +kernel
theorem dJ9_min_7cf53_6 : decode cJ9_min_7cf53 6 = .ok (.goto 4, 3) := by decide +kernel
theorem dJ9_min_7cf53_9 : decode cJ9_min_7cf53 9 = .ok (.iload_n 1, 1) := by decide +kernel
theorem dJ9_min_7cf53_10 : decode cJ9_min_7cf53 10 = .ok (.ireturn, 1) := by decide +kernel
theorem dJ0_length_8abf5_0 : decode cJ0_length_8abf5 0 = .ok (.aload_n 0, 1) := by decide +kernel
theorem dJ0_length_8abf5_1 : decode cJ0_length_8abf5 1 = .ok (.getfield 9, 3) := by decide +kernel
theorem dJ0_length_8abf5_4 : decode cJ0_length_8abf5 4 = .ok (.arraylength, 1) := by decide +kernel
theorem dJ0_length_8abf5_5 : decode cJ0_length_8abf5 5 = .ok (.aload_n 0, 1) := by decide +kernel
theorem dJ0_length_8abf5_6 : decode cJ0_length_8abf5 6 = .ok (.invokevirtual 335, 3) := by decide +kernel
theorem dJ0_length_8abf5_9 : decode cJ0_length_8abf5 9 = .ok (.ishr, 1) := by decide +kernel
theorem dJ0_length_8abf5_10 : decode cJ0_length_8abf5 10 = .ok (.ireturn, 1) := by decide +kernel
theorem dJ0_charAt_5068e_0 : decode cJ0_charAt_5068e 0 = .ok (.aload_n 0, 1) := by decide +kernel
theorem dJ0_charAt_5068e_1 : decode cJ0_charAt_5068e 1 = .ok (.invokevirtual 492, 3) := by decide +kernel
theorem dJ0_charAt_5068e_4 : decode cJ0_charAt_5068e 4 = .ok (.ifCond .eq 12, 3) := by decide +kernel
theorem dJ0_charAt_5068e_7 : decode cJ0_charAt_5068e 7 = .ok (.aload_n 0, 1) := by decide +kernel
theorem dJ0_charAt_5068e_8 : decode cJ0_charAt_5068e 8 = .ok (.getfield 9, 3) := by decide +kernel
theorem dJ0_charAt_5068e_11 : decode cJ0_charAt_5068e 11 = .ok (.iload_n 1, 1) := by decide +kernel
theorem dJ0_charAt_5068e_12 : decode cJ0_charAt_5068e 12 = .ok (.invokestatic 495, 3) := by decide +kernel
theorem dJ0_charAt_5068e_15 : decode cJ0_charAt_5068e 15 = .ok (.ireturn, 1) := by decide +kernel
theorem dJ0_charAt_5068e_16 : decode cJ0_charAt_5068e 16 = .ok (.aload_n 0, 1) := by decide +kernel
theorem dJ0_charAt_5068e_17 : decode cJ0_charAt_5068e 17 = .ok (.getfield 9, 3) := by decide +kernel
theorem dJ0_charAt_5068e_20 : decode cJ0_charAt_5068e 20 = .ok (.iload_n 1, 1) := by decide +kernel
theorem dJ0_charAt_5068e_21 : decode cJ0_charAt_5068e 21 = .ok (.invokestatic 498, 3) := by decide +kernel
theorem dJ0_charAt_5068e_24 : decode cJ0_charAt_5068e 24 = .ok (.ireturn, 1) := by decide +kernel
theorem dJ0_coder_7d493_0 : decode cJ0_coder_7d493 0 = .ok (.getstatic 38, 3) := by decide +kernel
theorem dJ0_coder_7d493_3 : decode cJ0_coder_7d493 3 = .ok (.ifCond .eq 10, 3) := by decide +kernel
theorem dJ0_coder_7d493_6 : decode cJ0_coder_7d493 6 = .ok (.aload_n 0, 1) := by decide +kernel
theorem dJ0_coder_7d493_7 : decode cJ0_coder_7d493 7 = .ok (.getfield 15, 3) := by decide +kernel
theorem dJ0_coder_7d493_10 : decode cJ0_coder_7d493 10 = .ok (.goto 4, 3) := by decide +kernel
theorem dJ0_coder_7d493_13 : decode cJ0_coder_7d493 13 = .ok (.iconst 1, 1) := by decide +kernel
theorem dJ0_coder_7d493_14 : decode cJ0_coder_7d493 14 = .ok (.ireturn, 1) := by decide +kernel
theorem dJ0_isLatin1_aae02_0 : decode cJ0_isLatin1_aae02 0 = .ok (.getstatic 38, 3) := by decide +kernel
theorem dJ0_isLatin1_aae02_3 : decode cJ0_isLatin1_aae02 3 = .ok (.ifCond .eq 14, 3) := by decide +kernel
theorem dJ0_isLatin1_aae02_6 : decode cJ0_isLatin1_aae02 6 = .ok (.aload_n 0, 1) := by decide +kernel
theorem dJ0_isLatin1_aae02_7 : decode cJ0_isLatin1_aae02 7 = .ok (.getfield 15, 3) := by decide +kernel
theorem dJ0_isLatin1_aae02_10 : decode cJ0_isLatin1_aae02 10 = .ok (.ifCond .ne 7, 3) := by decide +kernel
theorem dJ0_isLatin1_aae02_13 : decode cJ0_isLatin1_aae02 13 = .ok (.iconst 1, 1) := by decide +kernel
theorem dJ0_isLatin1_aae02_14 : decode cJ0_isLatin1_aae02 14 = .ok (.goto 4, 3) := by decide +kernel
theorem dJ0_isLatin1_aae02_17 : decode cJ0_isLatin1_aae02 17 = .ok (.iconst 0, 1) := by decide +kernel
theorem dJ0_isLatin1_aae02_18 : decode cJ0_isLatin1_aae02 18 = .ok (.ireturn, 1) := by decide +kernel
theorem dJ0_checkIndex_df160_0 : decode cJ0_checkIndex_df160 0 = .ok (.iload_n 0, 1) := by decide +kernel
theorem dJ0_checkIndex_df160_1 : decode cJ0_checkIndex_df160 1 = .ok (.iload_n 1, 1) := by decide +kernel
theorem dJ0_checkIndex_df160_2 : decode cJ0_checkIndex_df160 2 = .ok (.getstatic 1053, 3) := by decide +kernel
theorem dJ0_checkIndex_df160_5 : decode cJ0_checkIndex_df160 5 = .ok (.invokestatic 1059, 3) := by decide +kernel
theorem dJ0_checkIndex_df160_8 : decode cJ0_checkIndex_df160 8 = .ok (.pop, 1) := by decide +kernel
theorem dJ0_checkIndex_df160_9 : decode cJ0_checkIndex_df160 9 = .ok (.return_, 1) := by decide +kernel
theorem dJ1_charAt_3b067_0 : decode cJ1_charAt_3b067 0 = .ok (.iload_n 1, 1) := by decide +kernel
theorem dJ1_charAt_3b067_1 : decode cJ1_charAt_3b067 1 = .ok (.aload_n 0, 1) := by decide +kernel
theorem dJ1_charAt_3b067_2 : decode cJ1_charAt_3b067 2 = .ok (.arraylength, 1) := by decide +kernel
theorem dJ1_charAt_3b067_3 : decode cJ1_charAt_3b067 3 = .ok (.invokestatic 9, 3) := by decide +kernel
theorem dJ1_charAt_3b067_6 : decode cJ1_charAt_3b067 6 = .ok (.aload_n 0, 1) := by decide +kernel
theorem dJ1_charAt_3b067_7 : decode cJ1_charAt_3b067 7 = .ok (.iload_n 1, 1) := by decide +kernel
theorem dJ1_charAt_3b067_8 : decode cJ1_charAt_3b067 8 = .ok (.baload, 1) := by decide +kernel
theorem dJ1_charAt_3b067_9 : decode cJ1_charAt_3b067 9 = .ok (.sipush 255, 3) := by decide +kernel
theorem dJ1_charAt_3b067_12 : decode cJ1_charAt_3b067 12 = .ok (.iand, 1) := by decide +kernel
theorem dJ1_charAt_3b067_13 : decode cJ1_charAt_3b067 13 = .ok (.i2c, 1) := by decide +kernel
theorem dJ1_charAt_3b067_14 : decode cJ1_charAt_3b067 14 = .ok (.ireturn, 1) := by decide +kernel
theorem dJ2_getChar_3b067_0 : decode cJ2_getChar_3b067 0 = .ok (.getstatic 44, 3) := by decide +kernel
theorem dJ2_getChar_3b067_3 : decode cJ2_getChar_3b067 3 = .ok (.ifCond .ne 25, 3) := by decide +kernel
theorem dJ2_getChar_3b067_6 : decode cJ2_getChar_3b067 6 = .ok (.iload_n 1, 1) := by decide +kernel
theorem dJ2_getChar_3b067_7 : decode cJ2_getChar_3b067 7 = .ok (.ifCond .lt 11, 3) := by decide +kernel
theorem dJ2_getChar_3b067_10 : decode cJ2_getChar_3b067 10 = .ok (.iload_n 1, 1) := by decide +kernel
theorem dJ2_getChar_3b067_11 : decode cJ2_getChar_3b067 11 = .ok (.aload_n 0, 1) := by decide +kernel
theorem dJ2_getChar_3b067_12 : decode cJ2_getChar_3b067 12 = .ok (.invokestatic 48, 3) := by decide +kernel
theorem dJ2_getChar_3b067_15 : decode cJ2_getChar_3b067 15 = .ok (.if_icmp .lt 13, 3) := by decide +kernel
theorem dJ2_getChar_3b067_18 : decode cJ2_getChar_3b067 18 = .ok (.new 52, 3) := by decide +kernel
theorem dJ2_getChar_3b067_21 : decode cJ2_getChar_3b067 21 = .ok (.dup, 1) := by decide +kernel
theorem dJ2_getChar_3b067_22 : decode cJ2_getChar_3b067 22 = .ok (.ldc 54, 2) := by decide +kernel
theorem dJ2_getChar_3b067_24 : decode cJ2_getChar_3b067 24 = .ok (.invokespecial 56, 3) := by decide +kernel
theorem dJ2_getChar_3b067_27 : decode cJ2_getChar_3b067 27 = .ok (.athrow, 1) := by decide +kernel
theorem dJ2_getChar_3b067_28 : decode cJ2_getChar_3b067 28 = .ok (.iload_n 1, 1) := by decide +kernel
theorem dJ2_getChar_3b067_29 : decode cJ2_getChar_3b067 29 = .ok (.iconst 1, 1) := by decide +kernel
theorem dJ2_getChar_3b067_30 : decode cJ2_getChar_3b067 30 = .ok (.ishl, 1) := by decide +kernel
theorem dJ2_getChar_3b067_31 : decode cJ2_getChar_3b067 31 = .ok (.istore_n 1, 1) := by decide +kernel
theorem dJ2_getChar_3b067_32 : decode cJ2_getChar_3b067 32 = .ok (.aload_n 0, 1) := by decide +kernel
theorem dJ2_getChar_3b067_33 : decode cJ2_getChar_3b067 33 = .ok (.iload_n 1, 1) := by decide +kernel
theorem dJ2_getChar_3b067_34 : decode cJ2_getChar_3b067 34 = .ok (.iinc 1 1, 3) := by decide +kernel
theorem dJ2_getChar_3b067_37 : decode cJ2_getChar_3b067 37 = .ok (.baload, 1) := by decide +kernel
theorem dJ2_getChar_3b067_38 : decode cJ2_getChar_3b067 38 = .ok (.sipush 255, 3) := by decide +kernel
theorem dJ2_getChar_3b067_41 : decode cJ2_getChar_3b067 41 = .ok (.iand, 1) := by decide +kernel
theorem dJ2_getChar_3b067_42 : decode cJ2_getChar_3b067 42 = .ok (.getstatic 59, 3) := by decide +kernel
theorem dJ2_getChar_3b067_45 : decode cJ2_getChar_3b067 45 = .ok (.ishl, 1) := by decide +kernel
theorem dJ2_getChar_3b067_46 : decode cJ2_getChar_3b067 46 = .ok (.aload_n 0, 1) := by decide +kernel
theorem dJ2_getChar_3b067_47 : decode cJ2_getChar_3b067 47 = .ok (.iload_n 1, 1) := by decide +kernel
theorem dJ2_getChar_3b067_48 : decode cJ2_getChar_3b067 48 = .ok (.baload, 1) := by decide +kernel
theorem dJ2_getChar_3b067_49 : decode cJ2_getChar_3b067 49 = .ok (.sipush 255, 3) := by decide +kernel
theorem dJ2_getChar_3b067_52 : decode cJ2_getChar_3b067 52 = .ok (.iand, 1) := by decide +kernel
theorem dJ2_getChar_3b067_53 : decode cJ2_getChar_3b067 53 = .ok (.getstatic 63, 3) := by decide +kernel
theorem dJ2_getChar_3b067_56 : decode cJ2_getChar_3b067 56 = .ok (.ishl, 1) := by decide +kernel
theorem dJ2_getChar_3b067_57 : decode cJ2_getChar_3b067 57 = .ok (.ior, 1) := by decide +kernel
theorem dJ2_getChar_3b067_58 : decode cJ2_getChar_3b067 58 = .ok (.i2c, 1) := by decide +kernel
theorem dJ2_getChar_3b067_59 : decode cJ2_getChar_3b067 59 = .ok (.ireturn, 1) := by decide +kernel
theorem dJ2_length_9d52b_0 : decode cJ2_length_9d52b 0 = .ok (.aload_n 0, 1) := by decide +kernel
theorem dJ2_length_9d52b_1 : decode cJ2_length_9d52b 1 = .ok (.arraylength, 1) := by decide +kernel
theorem dJ2_length_9d52b_2 : decode cJ2_length_9d52b 2 = .ok (.iconst 1, 1) := by decide +kernel
theorem dJ2_length_9d52b_3 : decode cJ2_length_9d52b 3 = .ok (.ishr, 1) := by decide +kernel
theorem dJ2_length_9d52b_4 : decode cJ2_length_9d52b 4 = .ok (.ireturn, 1) := by decide +kernel
theorem dJ2_charAt_3b067_0 : decode cJ2_charAt_3b067 0 = .ok (.iload_n 1, 1) := by decide +kernel
theorem dJ2_charAt_3b067_1 : decode cJ2_charAt_3b067 1 = .ok (.aload_n 0, 1) := by decide +kernel
theorem dJ2_charAt_3b067_2 : decode cJ2_charAt_3b067 2 = .ok (.invokestatic 67, 3) := by decide +kernel
theorem dJ2_charAt_3b067_5 : decode cJ2_charAt_3b067 5 = .ok (.aload_n 0, 1) := by decide +kernel
theorem dJ2_charAt_3b067_6 : decode cJ2_charAt_3b067 6 = .ok (.iload_n 1, 1) := by decide +kernel
theorem dJ2_charAt_3b067_7 : decode cJ2_charAt_3b067 7 = .ok (.invokestatic 71, 3) := by decide +kernel
theorem dJ2_charAt_3b067_10 : decode cJ2_charAt_3b067 10 = .ok (.ireturn, 1) := by decide +kernel
theorem dJ2_checkIndex_2214a_0 : decode cJ2_checkIndex_2214a 0 = .ok (.iload_n 0, 1) := by decide +kernel
theorem dJ2_checkIndex_2214a_1 : decode cJ2_checkIndex_2214a 1 = .ok (.aload_n 1, 1) := by decide +kernel
theorem dJ2_checkIndex_2214a_2 : decode cJ2_checkIndex_2214a 2 = .ok (.invokestatic 48, 3) := by decide +kernel
theorem dJ2_checkIndex_2214a_5 : decode cJ2_checkIndex_2214a 5 = .ok (.invokestatic 414, 3) := by decide +kernel
theorem dJ2_checkIndex_2214a_8 : decode cJ2_checkIndex_2214a 8 = .ok (.return_, 1) := by decide +kernel
theorem dJ3_checkIndex_8e157_0 : decode cJ3_checkIndex_8e157 0 = .ok (.iload_n 0, 1) := by decide +kernel
theorem dJ3_checkIndex_8e157_1 : decode cJ3_checkIndex_8e157 1 = .ok (.ifCond .lt 8, 3) := by decide +kernel
theorem dJ3_checkIndex_8e157_4 : decode cJ3_checkIndex_8e157 4 = .ok (.iload_n 0, 1) := by decide +kernel
theorem dJ3_checkIndex_8e157_5 : decode cJ3_checkIndex_8e157 5 = .ok (.iload_n 1, 1) := by decide +kernel
theorem dJ3_checkIndex_8e157_6 : decode cJ3_checkIndex_8e157 6 = .ok (.if_icmp .lt 10, 3) := by decide +kernel
theorem dJ3_checkIndex_8e157_9 : decode cJ3_checkIndex_8e157 9 = .ok (.aload_n 2, 1) := by decide +kernel
theorem dJ3_checkIndex_8e157_10 : decode cJ3_checkIndex_8e157 10 = .ok (.iload_n 0, 1) := by decide +kernel
theorem dJ3_checkIndex_8e157_11 : decode cJ3_checkIndex_8e157 11 = .ok (.iload_n 1, 1) := by decide +kernel
theorem dJ3_checkIndex_8e157_12 : decode cJ3_checkIndex_8e157 12 = .ok (.invokestatic 95, 3) := by decide +kernel
theorem dJ3_checkIndex_8e157_15 : decode cJ3_checkIndex_8e157 15 = .ok (.athrow, 1) := by decide +kernel
theorem dJ3_checkIndex_8e157_16 : decode cJ3_checkIndex_8e157 16 = .ok (.iload_n 0, 1) := by decide +kernel
theorem dJ3_checkIndex_8e157_17 : decode cJ3_checkIndex_8e157 17 = .ok (.ireturn, 1) := by decide +kernel
theorem dL_led_0 : decode cL_led 0 = .ok (.aload_n 2, 1) := by decide +kernel
theorem dL_led_1 : decode cL_led 1 = .ok (.iconst 0, 1) := by decide +kernel
theorem dL_led_2 : decode cL_led 2 = .ok (.aload_n 0, 1) := by decide +kernel
theorem dL_led_3 : decode cL_led 3 = .ok (.iload_n 1, 1) := by decide +kernel
theorem dL_led_4 : decode cL_led 4 = .ok (.invokevirtual 7, 3) := by decide +kernel
theorem dL_led_7 : decode cL_led 7 = .ok (.i2l, 1) := by decide +kernel
theorem dL_led_8 : decode cL_led 8 = .ok (.lastore, 1) := by decide +kernel
theorem dL_led_9 : decode cL_led 9 = .ok (.goto 6, 3) := by decide +kernel
theorem dL_led_12 : decode cL_led 12 = .ok (.astore_n 3, 1) := by decide +kernel
theorem dL_led_13 : decode cL_led 13 = .ok (.iconst 1, 1) := by decide +kernel
theorem dL_led_14 : decode cL_led 14 = .ok (.ireturn, 1) := by decide +kernel
theorem dL_led_15 : decode cL_led 15 = .ok (.iconst 0, 1) := by decide +kernel
theorem dL_led_16 : decode cL_led 16 = .ok (.ireturn, 1) := by decide +kernel
theorem dL_law_0 : decode cL_law 0 = .ok (.new 8, 3) := by decide +kernel
theorem dL_law_3 : decode cL_law 3 = .ok (.dup, 1) := by decide +kernel
theorem dL_law_4 : decode cL_law 4 = .ok (.invokespecial 15, 3) := by decide +kernel
theorem dL_law_7 : decode cL_law 7 = .ok (.astore_n 1, 1) := by decide +kernel
theorem dL_law_8 : decode cL_law 8 = .ok (.new 16, 3) := by decide +kernel
theorem dL_law_11 : decode cL_law 11 = .ok (.dup, 1) := by decide +kernel
theorem dL_law_12 : decode cL_law 12 = .ok (.invokespecial 18, 3) := by decide +kernel
theorem dL_law_15 : decode cL_law 15 = .ok (.astore_n 2, 1) := by decide +kernel
theorem dL_law_16 : decode cL_law 16 = .ok (.iconst 1, 1) := by decide +kernel
theorem dL_law_17 : decode cL_law 17 = .ok (.newarray .long, 2) := by decide +kernel
theorem dL_law_19 : decode cL_law 19 = .ok (.astore_n 3, 1) := by decide +kernel
theorem dL_law_20 : decode cL_law 20 = .ok (.iconst 0, 1) := by decide +kernel
theorem dL_law_21 : decode cL_law 21 = .ok (.istore 4, 2) := by decide +kernel
theorem dL_law_23 : decode cL_law 23 = .ok (.iload 4, 2) := by decide +kernel
theorem dL_law_25 : decode cL_law 25 = .ok (.aload_n 0, 1) := by decide +kernel
theorem dL_law_26 : decode cL_law 26 = .ok (.arraylength, 1) := by decide +kernel
theorem dL_law_27 : decode cL_law 27 = .ok (.bipush 6, 2) := by decide +kernel
theorem dL_law_29 : decode cL_law 29 = .ok (.isub, 1) := by decide +kernel
theorem dL_law_30 : decode cL_law 30 = .ok (.if_icmp .gt 1566, 3) := by decide +kernel
theorem dL_law_33 : decode cL_law 33 = .ok (.aload_n 0, 1) := by decide +kernel
theorem dL_law_34 : decode cL_law 34 = .ok (.iload 4, 2) := by decide +kernel
theorem dL_law_36 : decode cL_law 36 = .ok (.iaload, 1) := by decide +kernel
theorem dL_law_37 : decode cL_law 37 = .ok (.bipush 63, 2) := by decide +kernel
theorem dL_law_39 : decode cL_law 39 = .ok (.iand, 1) := by decide +kernel
theorem dL_law_40 : decode cL_law 40 = .ok (.tableswitch 1550 0 50 #[220, 293, 318, 331, 344, 381, 394, 431, 468, 493, 506, 519, 544, 557, 582, 619, 656, 681, 706, 731, 756, 781, 806, 843, 880, 893, 906, 931, 956, 981, 1018, 1067, 1104, 1117, 1130, 1143, 1156, 1169, 1194, 1219, 1256, 1281, 1318, 1343, 1356, 1369, 1394, 1431, 1456, 1512, 1537], 220) := by decide +kernel
theorem dL_law_260 : decode cL_law 260 = .ok (.aload_n 1, 1) := by decide +kernel
theorem dL_law_261 : decode cL_law 261 = .ok (.aload_n 0, 1) := by decide +kernel
theorem dL_law_262 : decode cL_law 262 = .ok (.iload 4, 2) := by decide +kernel
theorem dL_law_264 : decode cL_law 264 = .ok (.iconst 1, 1) := by decide +kernel
theorem dL_law_265 : decode cL_law 265 = .ok (.iadd, 1) := by decide +kernel
theorem dL_law_266 : decode cL_law 266 = .ok (.iaload, 1) := by decide +kernel
theorem dL_law_267 : decode cL_law 267 = .ok (.aload_n 0, 1) := by decide +kernel
theorem dL_law_268 : decode cL_law 268 = .ok (.iload 4, 2) := by decide +kernel
theorem dL_law_270 : decode cL_law 270 = .ok (.iconst 2, 1) := by decide +kernel
theorem dL_law_271 : decode cL_law 271 = .ok (.iadd, 1) := by decide +kernel
theorem dL_law_272 : decode cL_law 272 = .ok (.iaload, 1) := by decide +kernel
theorem dL_law_273 : decode cL_law 273 = .ok (.aload_n 0, 1) := by decide +kernel
theorem dL_law_274 : decode cL_law 274 = .ok (.iload 4, 2) := by decide +kernel
theorem dL_law_276 : decode cL_law 276 = .ok (.iconst 3, 1) := by decide +kernel
theorem dL_law_277 : decode cL_law 277 = .ok (.iadd, 1) := by decide +kernel
theorem dL_law_278 : decode cL_law 278 = .ok (.iaload, 1) := by decide +kernel
theorem dL_law_279 : decode cL_law 279 = .ok (.aload_n 0, 1) := by decide +kernel
theorem dL_law_280 : decode cL_law 280 = .ok (.iload 4, 2) := by decide +kernel
theorem dL_law_282 : decode cL_law 282 = .ok (.iconst 4, 1) := by decide +kernel
theorem dL_law_283 : decode cL_law 283 = .ok (.iadd, 1) := by decide +kernel
theorem dL_law_284 : decode cL_law 284 = .ok (.iaload, 1) := by decide +kernel
theorem dL_law_285 : decode cL_law 285 = .ok (.aload_n 0, 1) := by decide +kernel
theorem dL_law_286 : decode cL_law 286 = .ok (.iload 4, 2) := by decide +kernel
theorem dL_law_288 : decode cL_law 288 = .ok (.iconst 5, 1) := by decide +kernel
theorem dL_law_289 : decode cL_law 289 = .ok (.iadd, 1) := by decide +kernel
theorem dL_law_290 : decode cL_law 290 = .ok (.iaload, 1) := by decide +kernel
theorem dL_law_291 : decode cL_law 291 = .ok (.invokevirtual 19, 3) := by decide +kernel
theorem dL_law_294 : decode cL_law 294 = .ok (.aload_n 2, 1) := by decide +kernel
theorem dL_law_295 : decode cL_law 295 = .ok (.aload_n 0, 1) := by decide +kernel
theorem dL_law_296 : decode cL_law 296 = .ok (.iload 4, 2) := by decide +kernel
theorem dL_law_298 : decode cL_law 298 = .ok (.iconst 1, 1) := by decide +kernel
theorem dL_law_299 : decode cL_law 299 = .ok (.iadd, 1) := by decide +kernel
theorem dL_law_300 : decode cL_law 300 = .ok (.iaload, 1) := by decide +kernel
theorem dL_law_301 : decode cL_law 301 = .ok (.aload_n 0, 1) := by decide +kernel
theorem dL_law_302 : decode cL_law 302 = .ok (.iload 4, 2) := by decide +kernel
theorem dL_law_304 : decode cL_law 304 = .ok (.iconst 2, 1) := by decide +kernel
theorem dL_law_305 : decode cL_law 305 = .ok (.iadd, 1) := by decide +kernel
theorem dL_law_306 : decode cL_law 306 = .ok (.iaload, 1) := by decide +kernel
theorem dL_law_307 : decode cL_law 307 = .ok (.aload_n 0, 1) := by decide +kernel
theorem dL_law_308 : decode cL_law 308 = .ok (.iload 4, 2) := by decide +kernel
theorem dL_law_310 : decode cL_law 310 = .ok (.iconst 3, 1) := by decide +kernel
theorem dL_law_311 : decode cL_law 311 = .ok (.iadd, 1) := by decide +kernel
theorem dL_law_312 : decode cL_law 312 = .ok (.iaload, 1) := by decide +kernel
theorem dL_law_313 : decode cL_law 313 = .ok (.aload_n 0, 1) := by decide +kernel
theorem dL_law_314 : decode cL_law 314 = .ok (.iload 4, 2) := by decide +kernel
theorem dL_law_316 : decode cL_law 316 = .ok (.iconst 4, 1) := by decide +kernel
theorem dL_law_317 : decode cL_law 317 = .ok (.iadd, 1) := by decide +kernel
theorem dL_law_318 : decode cL_law 318 = .ok (.iaload, 1) := by decide +kernel
theorem dL_law_319 : decode cL_law 319 = .ok (.aload_n 0, 1) := by decide +kernel
theorem dL_law_320 : decode cL_law 320 = .ok (.iload 4, 2) := by decide +kernel
theorem dL_law_322 : decode cL_law 322 = .ok (.iconst 5, 1) := by decide +kernel
theorem dL_law_323 : decode cL_law 323 = .ok (.iadd, 1) := by decide +kernel
theorem dL_law_324 : decode cL_law 324 = .ok (.iaload, 1) := by decide +kernel
theorem dL_law_325 : decode cL_law 325 = .ok (.invokevirtual 23, 3) := by decide +kernel
theorem dL_law_328 : decode cL_law 328 = .ok (.if_icmp .eq 1262, 3) := by decide +kernel
theorem dL_law_331 : decode cL_law 331 = .ok (.iconst 0, 1) := by decide +kernel
theorem dL_law_332 : decode cL_law 332 = .ok (.ireturn, 1) := by decide +kernel
theorem dL_law_333 : decode cL_law 333 = .ok (.aload_n 1, 1) := by decide +kernel
theorem dL_law_334 : decode cL_law 334 = .ok (.aload_n 0, 1) := by decide +kernel
theorem dL_law_335 : decode cL_law 335 = .ok (.iload 4, 2) := by decide +kernel
theorem dL_law_337 : decode cL_law 337 = .ok (.iconst 1, 1) := by decide +kernel
theorem dL_law_338 : decode cL_law 338 = .ok (.iadd, 1) := by decide +kernel
theorem dL_law_339 : decode cL_law 339 = .ok (.iaload, 1) := by decide +kernel
theorem dL_law_340 : decode cL_law 340 = .ok (.invokevirtual 24, 3) := by decide +kernel
theorem dL_law_343 : decode cL_law 343 = .ok (.aload_n 2, 1) := by decide +kernel
theorem dL_law_344 : decode cL_law 344 = .ok (.aload_n 0, 1) := by decide +kernel
theorem dL_law_345 : decode cL_law 345 = .ok (.iload 4, 2) := by decide +kernel
theorem dL_law_347 : decode cL_law 347 = .ok (.iconst 1, 1) := by decide +kernel
theorem dL_law_348 : decode cL_law 348 = .ok (.iadd, 1) := by decide +kernel
theorem dL_law_349 : decode cL_law 349 = .ok (.iaload, 1) := by decide +kernel
theorem dL_law_350 : decode cL_law 350 = .ok (.invokevirtual 27, 3) := by decide +kernel
theorem dL_law_353 : decode cL_law 353 = .ok (.if_icmp .eq 1237, 3) := by decide +kernel
theorem dL_law_356 : decode cL_law 356 = .ok (.iconst 0, 1) := by decide +kernel
theorem dL_law_357 : decode cL_law 357 = .ok (.ireturn, 1) := by decide +kernel
theorem dL_law_358 : decode cL_law 358 = .ok (.aload_n 1, 1) := by decide +kernel
theorem dL_law_359 : decode cL_law 359 = .ok (.invokevirtual 28, 3) := by decide +kernel
theorem dL_law_362 : decode cL_law 362 = .ok (.aload_n 2, 1) := by decide +kernel
theorem dL_law_363 : decode cL_law 363 = .ok (.invokevirtual 32, 3) := by decide +kernel
theorem dL_law_366 : decode cL_law 366 = .ok (.if_icmp .eq 1224, 3) := by decide +kernel
theorem dL_law_369 : decode cL_law 369 = .ok (.iconst 0, 1) := by decide +kernel
theorem dL_law_370 : decode cL_law 370 = .ok (.ireturn, 1) := by decide +kernel
theorem dL_law_371 : decode cL_law 371 = .ok (.aload_n 1, 1) := by decide +kernel
theorem dL_law_372 : decode cL_law 372 = .ok (.invokevirtual 33, 3) := by decide +kernel
theorem dL_law_375 : decode cL_law 375 = .ok (.aload_n 2, 1) := by decide +kernel
theorem dL_law_376 : decode cL_law 376 = .ok (.invokevirtual 36, 3) := by decide +kernel
theorem dL_law_379 : decode cL_law 379 = .ok (.if_icmp .eq 1211, 3) := by decide +kernel
theorem dL_law_382 : decode cL_law 382 = .ok (.iconst 0, 1) := by decide +kernel
theorem dL_law_383 : decode cL_law 383 = .ok (.ireturn, 1) := by decide +kernel
theorem dL_law_384 : decode cL_law 384 = .ok (.aload_n 1, 1) := by decide +kernel
theorem dL_law_385 : decode cL_law 385 = .ok (.aload_n 0, 1) := by decide +kernel
theorem dL_law_386 : decode cL_law 386 = .ok (.iload 4, 2) := by decide +kernel
theorem dL_law_388 : decode cL_law 388 = .ok (.iconst 1, 1) := by decide +kernel
theorem dL_law_389 : decode cL_law 389 = .ok (.iadd, 1) := by decide +kernel
theorem dL_law_390 : decode cL_law 390 = .ok (.iaload, 1) := by decide +kernel
theorem dL_law_391 : decode cL_law 391 = .ok (.aload_n 0, 1) := by decide +kernel
theorem dL_law_392 : decode cL_law 392 = .ok (.iload 4, 2) := by decide +kernel
theorem dL_law_394 : decode cL_law 394 = .ok (.iconst 2, 1) := by decide +kernel
theorem dL_law_395 : decode cL_law 395 = .ok (.iadd, 1) := by decide +kernel
theorem dL_law_396 : decode cL_law 396 = .ok (.iaload, 1) := by decide +kernel
theorem dL_law_397 : decode cL_law 397 = .ok (.invokevirtual 37, 3) := by decide +kernel
theorem dL_law_400 : decode cL_law 400 = .ok (.aload_n 2, 1) := by decide +kernel
theorem dL_law_401 : decode cL_law 401 = .ok (.aload_n 0, 1) := by decide +kernel
theorem dL_law_402 : decode cL_law 402 = .ok (.iload 4, 2) := by decide +kernel
theorem dL_law_404 : decode cL_law 404 = .ok (.iconst 1, 1) := by decide +kernel
theorem dL_law_405 : decode cL_law 405 = .ok (.iadd, 1) := by decide +kernel
theorem dL_law_406 : decode cL_law 406 = .ok (.iaload, 1) := by decide +kernel
theorem dL_law_407 : decode cL_law 407 = .ok (.aload_n 0, 1) := by decide +kernel
theorem dL_law_408 : decode cL_law 408 = .ok (.iload 4, 2) := by decide +kernel
theorem dL_law_410 : decode cL_law 410 = .ok (.iconst 2, 1) := by decide +kernel
theorem dL_law_411 : decode cL_law 411 = .ok (.iadd, 1) := by decide +kernel
theorem dL_law_412 : decode cL_law 412 = .ok (.iaload, 1) := by decide +kernel
theorem dL_law_413 : decode cL_law 413 = .ok (.invokevirtual 41, 3) := by decide +kernel
theorem dL_law_416 : decode cL_law 416 = .ok (.if_icmp .eq 1174, 3) := by decide +kernel
theorem dL_law_419 : decode cL_law 419 = .ok (.iconst 0, 1) := by decide +kernel
theorem dL_law_420 : decode cL_law 420 = .ok (.ireturn, 1) := by decide +kernel
theorem dL_law_421 : decode cL_law 421 = .ok (.aload_n 1, 1) := by decide +kernel
theorem dL_law_422 : decode cL_law 422 = .ok (.invokevirtual 42, 3) := by decide +kernel
theorem dL_law_425 : decode cL_law 425 = .ok (.aload_n 2, 1) := by decide +kernel
theorem dL_law_426 : decode cL_law 426 = .ok (.invokevirtual 45, 3) := by decide +kernel
theorem dL_law_429 : decode cL_law 429 = .ok (.if_icmp .eq 1161, 3) := by decide +kernel
theorem dL_law_432 : decode cL_law 432 = .ok (.iconst 0, 1) := by decide +kernel
theorem dL_law_433 : decode cL_law 433 = .ok (.ireturn, 1) := by decide +kernel
theorem dL_law_434 : decode cL_law 434 = .ok (.aload_n 1, 1) := by decide +kernel
theorem dL_law_435 : decode cL_law 435 = .ok (.aload_n 0, 1) := by decide +kernel
theorem dL_law_436 : decode cL_law 436 = .ok (.iload 4, 2) := by decide +kernel
theorem dL_law_438 : decode cL_law 438 = .ok (.iconst 1, 1) := by decide +kernel
theorem dL_law_439 : decode cL_law 439 = .ok (.iadd, 1) := by decide +kernel
theorem dL_law_440 : decode cL_law 440 = .ok (.iaload, 1) := by decide +kernel
theorem dL_law_441 : decode cL_law 441 = .ok (.aload_n 0, 1) := by decide +kernel
theorem dL_law_442 : decode cL_law 442 = .ok (.iload 4, 2) := by decide +kernel
theorem dL_law_444 : decode cL_law 444 = .ok (.iconst 2, 1) := by decide +kernel
theorem dL_law_445 : decode cL_law 445 = .ok (.iadd, 1) := by decide +kernel
theorem dL_law_446 : decode cL_law 446 = .ok (.iaload, 1) := by decide +kernel
theorem dL_law_447 : decode cL_law 447 = .ok (.invokevirtual 46, 3) := by decide +kernel
theorem dL_law_450 : decode cL_law 450 = .ok (.aload_n 2, 1) := by decide +kernel
theorem dL_law_451 : decode cL_law 451 = .ok (.aload_n 0, 1) := by decide +kernel
theorem dL_law_452 : decode cL_law 452 = .ok (.iload 4, 2) := by decide +kernel
theorem dL_law_454 : decode cL_law 454 = .ok (.iconst 1, 1) := by decide +kernel
theorem dL_law_455 : decode cL_law 455 = .ok (.iadd, 1) := by decide +kernel
theorem dL_law_456 : decode cL_law 456 = .ok (.iaload, 1) := by decide +kernel
theorem dL_law_457 : decode cL_law 457 = .ok (.aload_n 0, 1) := by decide +kernel
theorem dL_law_458 : decode cL_law 458 = .ok (.iload 4, 2) := by decide +kernel
theorem dL_law_460 : decode cL_law 460 = .ok (.iconst 2, 1) := by decide +kernel
theorem dL_law_461 : decode cL_law 461 = .ok (.iadd, 1) := by decide +kernel
theorem dL_law_462 : decode cL_law 462 = .ok (.iaload, 1) := by decide +kernel
theorem dL_law_463 : decode cL_law 463 = .ok (.invokevirtual 49, 3) := by decide +kernel
theorem dL_law_466 : decode cL_law 466 = .ok (.if_icmp .eq 1124, 3) := by decide +kernel
theorem dL_law_469 : decode cL_law 469 = .ok (.iconst 0, 1) := by decide +kernel
theorem dL_law_470 : decode cL_law 470 = .ok (.ireturn, 1) := by decide +kernel
theorem dL_law_471 : decode cL_law 471 = .ok (.aload_n 1, 1) := by decide +kernel
theorem dL_law_472 : decode cL_law 472 = .ok (.aload_n 0, 1) := by decide +kernel
theorem dL_law_473 : decode cL_law 473 = .ok (.iload 4, 2) := by decide +kernel
theorem dL_law_475 : decode cL_law 475 = .ok (.iconst 1, 1) := by decide +kernel
theorem dL_law_476 : decode cL_law 476 = .ok (.iadd, 1) := by decide +kernel
theorem dL_law_477 : decode cL_law 477 = .ok (.iaload, 1) := by decide +kernel
theorem dL_law_478 : decode cL_law 478 = .ok (.aload_n 0, 1) := by decide +kernel
theorem dL_law_479 : decode cL_law 479 = .ok (.iload 4, 2) := by decide +kernel
theorem dL_law_481 : decode cL_law 481 = .ok (.iconst 2, 1) := by decide +kernel
theorem dL_law_482 : decode cL_law 482 = .ok (.iadd, 1) := by decide +kernel
theorem dL_law_483 : decode cL_law 483 = .ok (.iaload, 1) := by decide +kernel
theorem dL_law_484 : decode cL_law 484 = .ok (.invokevirtual 50, 3) := by decide +kernel
theorem dL_law_487 : decode cL_law 487 = .ok (.aload_n 2, 1) := by decide +kernel
theorem dL_law_488 : decode cL_law 488 = .ok (.aload_n 0, 1) := by decide +kernel
theorem dL_law_489 : decode cL_law 489 = .ok (.iload 4, 2) := by decide +kernel
theorem dL_law_491 : decode cL_law 491 = .ok (.iconst 1, 1) := by decide +kernel
theorem dL_law_492 : decode cL_law 492 = .ok (.iadd, 1) := by decide +kernel
theorem dL_law_493 : decode cL_law 493 = .ok (.iaload, 1) := by decide +kernel
theorem dL_law_494 : decode cL_law 494 = .ok (.aload_n 0, 1) := by decide +kernel
theorem dL_law_495 : decode cL_law 495 = .ok (.iload 4, 2) := by decide +kernel
theorem dL_law_497 : decode cL_law 497 = .ok (.iconst 2, 1) := by decide +kernel
theorem dL_law_498 : decode cL_law 498 = .ok (.iadd, 1) := by decide +kernel
theorem dL_law_499 : decode cL_law 499 = .ok (.iaload, 1) := by decide +kernel
theorem dL_law_500 : decode cL_law 500 = .ok (.invokevirtual 53, 3) := by decide +kernel
theorem dL_law_503 : decode cL_law 503 = .ok (.if_icmp .eq 1087, 3) := by decide +kernel
theorem dL_law_506 : decode cL_law 506 = .ok (.iconst 0, 1) := by decide +kernel
theorem dL_law_507 : decode cL_law 507 = .ok (.ireturn, 1) := by decide +kernel
theorem dL_law_508 : decode cL_law 508 = .ok (.aload_n 1, 1) := by decide +kernel
theorem dL_law_509 : decode cL_law 509 = .ok (.aload_n 0, 1) := by decide +kernel
theorem dL_law_510 : decode cL_law 510 = .ok (.iload 4, 2) := by decide +kernel
theorem dL_law_512 : decode cL_law 512 = .ok (.iconst 1, 1) := by decide +kernel
theorem dL_law_513 : decode cL_law 513 = .ok (.iadd, 1) := by decide +kernel
theorem dL_law_514 : decode cL_law 514 = .ok (.iaload, 1) := by decide +kernel
theorem dL_law_515 : decode cL_law 515 = .ok (.invokevirtual 54, 3) := by decide +kernel
theorem dL_law_518 : decode cL_law 518 = .ok (.aload_n 2, 1) := by decide +kernel
theorem dL_law_519 : decode cL_law 519 = .ok (.aload_n 0, 1) := by decide +kernel
theorem dL_law_520 : decode cL_law 520 = .ok (.iload 4, 2) := by decide +kernel
theorem dL_law_522 : decode cL_law 522 = .ok (.iconst 1, 1) := by decide +kernel
theorem dL_law_523 : decode cL_law 523 = .ok (.iadd, 1) := by decide +kernel
theorem dL_law_524 : decode cL_law 524 = .ok (.iaload, 1) := by decide +kernel
theorem dL_law_525 : decode cL_law 525 = .ok (.invokevirtual 57, 3) := by decide +kernel
theorem dL_law_528 : decode cL_law 528 = .ok (.if_icmp .eq 1062, 3) := by decide +kernel
theorem dL_law_531 : decode cL_law 531 = .ok (.iconst 0, 1) := by decide +kernel
theorem dL_law_532 : decode cL_law 532 = .ok (.ireturn, 1) := by decide +kernel
theorem dL_law_533 : decode cL_law 533 = .ok (.aload_n 1, 1) := by decide +kernel
theorem dL_law_534 : decode cL_law 534 = .ok (.invokevirtual 58, 3) := by decide +kernel
theorem dL_law_537 : decode cL_law 537 = .ok (.aload_n 2, 1) := by decide +kernel
theorem dL_law_538 : decode cL_law 538 = .ok (.invokevirtual 61, 3) := by decide +kernel
theorem dL_law_541 : decode cL_law 541 = .ok (.if_icmp .eq 1049, 3) := by decide +kernel
theorem dL_law_544 : decode cL_law 544 = .ok (.iconst 0, 1) := by decide +kernel
theorem dL_law_545 : decode cL_law 545 = .ok (.ireturn, 1) := by decide +kernel
theorem dL_law_546 : decode cL_law 546 = .ok (.aload_n 1, 1) := by decide +kernel
theorem dL_law_547 : decode cL_law 547 = .ok (.invokevirtual 62, 3) := by decide +kernel
theorem dL_law_550 : decode cL_law 550 = .ok (.aload_n 2, 1) := by decide +kernel
theorem dL_law_551 : decode cL_law 551 = .ok (.invokevirtual 65, 3) := by decide +kernel
theorem dL_law_554 : decode cL_law 554 = .ok (.if_icmp .eq 1036, 3) := by decide +kernel
theorem dL_law_557 : decode cL_law 557 = .ok (.iconst 0, 1) := by decide +kernel
theorem dL_law_558 : decode cL_law 558 = .ok (.ireturn, 1) := by decide +kernel
theorem dL_law_559 : decode cL_law 559 = .ok (.aload_n 1, 1) := by decide +kernel
theorem dL_law_560 : decode cL_law 560 = .ok (.aload_n 0, 1) := by decide +kernel
theorem dL_law_561 : decode cL_law 561 = .ok (.iload 4, 2) := by decide +kernel
theorem dL_law_563 : decode cL_law 563 = .ok (.iconst 1, 1) := by decide +kernel
theorem dL_law_564 : decode cL_law 564 = .ok (.iadd, 1) := by decide +kernel
theorem dL_law_565 : decode cL_law 565 = .ok (.iaload, 1) := by decide +kernel
theorem dL_law_566 : decode cL_law 566 = .ok (.invokevirtual 66, 3) := by decide +kernel
theorem dL_law_569 : decode cL_law 569 = .ok (.aload_n 2, 1) := by decide +kernel
theorem dL_law_570 : decode cL_law 570 = .ok (.aload_n 0, 1) := by decide +kernel
theorem dL_law_571 : decode cL_law 571 = .ok (.iload 4, 2) := by decide +kernel
theorem dL_law_573 : decode cL_law 573 = .ok (.iconst 1, 1) := by decide +kernel
theorem dL_law_574 : decode cL_law 574 = .ok (.iadd, 1) := by decide +kernel
theorem dL_law_575 : decode cL_law 575 = .ok (.iaload, 1) := by decide +kernel
theorem dL_law_576 : decode cL_law 576 = .ok (.invokevirtual 69, 3) := by decide +kernel
theorem dL_law_579 : decode cL_law 579 = .ok (.if_icmp .eq 1011, 3) := by decide +kernel
theorem dL_law_582 : decode cL_law 582 = .ok (.iconst 0, 1) := by decide +kernel
theorem dL_law_583 : decode cL_law 583 = .ok (.ireturn, 1) := by decide +kernel
theorem dL_law_584 : decode cL_law 584 = .ok (.aload_n 1, 1) := by decide +kernel
theorem dL_law_585 : decode cL_law 585 = .ok (.invokevirtual 70, 3) := by decide +kernel
theorem dL_law_588 : decode cL_law 588 = .ok (.aload_n 2, 1) := by decide +kernel
theorem dL_law_589 : decode cL_law 589 = .ok (.invokevirtual 73, 3) := by decide +kernel
theorem dL_law_592 : decode cL_law 592 = .ok (.if_icmp .eq 998, 3) := by decide +kernel
theorem dL_law_595 : decode cL_law 595 = .ok (.iconst 0, 1) := by decide +kernel
theorem dL_law_596 : decode cL_law 596 = .ok (.ireturn, 1) := by decide +kernel
theorem dL_law_597 : decode cL_law 597 = .ok (.aload_n 1, 1) := by decide +kernel
theorem dL_law_598 : decode cL_law 598 = .ok (.aload_n 0, 1) := by decide +kernel
theorem dL_law_599 : decode cL_law 599 = .ok (.iload 4, 2) := by decide +kernel
theorem dL_law_601 : decode cL_law 601 = .ok (.iconst 1, 1) := by decide +kernel
theorem dL_law_602 : decode cL_law 602 = .ok (.iadd, 1) := by decide +kernel
theorem dL_law_603 : decode cL_law 603 = .ok (.iaload, 1) := by decide +kernel
theorem dL_law_604 : decode cL_law 604 = .ok (.invokevirtual 74, 3) := by decide +kernel
theorem dL_law_607 : decode cL_law 607 = .ok (.aload_n 2, 1) := by decide +kernel
theorem dL_law_608 : decode cL_law 608 = .ok (.aload_n 0, 1) := by decide +kernel
theorem dL_law_609 : decode cL_law 609 = .ok (.iload 4, 2) := by decide +kernel
theorem dL_law_611 : decode cL_law 611 = .ok (.iconst 1, 1) := by decide +kernel
theorem dL_law_612 : decode cL_law 612 = .ok (.iadd, 1) := by decide +kernel
theorem dL_law_613 : decode cL_law 613 = .ok (.iaload, 1) := by decide +kernel
theorem dL_law_614 : decode cL_law 614 = .ok (.invokevirtual 77, 3) := by decide +kernel
theorem dL_law_617 : decode cL_law 617 = .ok (.if_icmp .eq 973, 3) := by decide +kernel
theorem dL_law_620 : decode cL_law 620 = .ok (.iconst 0, 1) := by decide +kernel
theorem dL_law_621 : decode cL_law 621 = .ok (.ireturn, 1) := by decide +kernel
theorem dL_law_622 : decode cL_law 622 = .ok (.aload_n 1, 1) := by decide +kernel
theorem dL_law_623 : decode cL_law 623 = .ok (.aload_n 0, 1) := by decide +kernel
theorem dL_law_624 : decode cL_law 624 = .ok (.iload 4, 2) := by decide +kernel
theorem dL_law_626 : decode cL_law 626 = .ok (.iconst 1, 1) := by decide +kernel
theorem dL_law_627 : decode cL_law 627 = .ok (.iadd, 1) := by decide +kernel
theorem dL_law_628 : decode cL_law 628 = .ok (.iaload, 1) := by decide +kernel
theorem dL_law_629 : decode cL_law 629 = .ok (.aload_n 0, 1) := by decide +kernel
theorem dL_law_630 : decode cL_law 630 = .ok (.iload 4, 2) := by decide +kernel
theorem dL_law_632 : decode cL_law 632 = .ok (.iconst 2, 1) := by decide +kernel
theorem dL_law_633 : decode cL_law 633 = .ok (.iadd, 1) := by decide +kernel
theorem dL_law_634 : decode cL_law 634 = .ok (.iaload, 1) := by decide +kernel
theorem dL_law_635 : decode cL_law 635 = .ok (.invokevirtual 78, 3) := by decide +kernel
theorem dL_law_638 : decode cL_law 638 = .ok (.aload_n 2, 1) := by decide +kernel
theorem dL_law_639 : decode cL_law 639 = .ok (.aload_n 0, 1) := by decide +kernel
theorem dL_law_640 : decode cL_law 640 = .ok (.iload 4, 2) := by decide +kernel
theorem dL_law_642 : decode cL_law 642 = .ok (.iconst 1, 1) := by decide +kernel
theorem dL_law_643 : decode cL_law 643 = .ok (.iadd, 1) := by decide +kernel
theorem dL_law_644 : decode cL_law 644 = .ok (.iaload, 1) := by decide +kernel
theorem dL_law_645 : decode cL_law 645 = .ok (.aload_n 0, 1) := by decide +kernel
theorem dL_law_646 : decode cL_law 646 = .ok (.iload 4, 2) := by decide +kernel
theorem dL_law_648 : decode cL_law 648 = .ok (.iconst 2, 1) := by decide +kernel
theorem dL_law_649 : decode cL_law 649 = .ok (.iadd, 1) := by decide +kernel
theorem dL_law_650 : decode cL_law 650 = .ok (.iaload, 1) := by decide +kernel
theorem dL_law_651 : decode cL_law 651 = .ok (.invokevirtual 81, 3) := by decide +kernel
theorem dL_law_654 : decode cL_law 654 = .ok (.if_icmp .eq 936, 3) := by decide +kernel
theorem dL_law_657 : decode cL_law 657 = .ok (.iconst 0, 1) := by decide +kernel
theorem dL_law_658 : decode cL_law 658 = .ok (.ireturn, 1) := by decide +kernel
theorem dL_law_659 : decode cL_law 659 = .ok (.aload_n 1, 1) := by decide +kernel
theorem dL_law_660 : decode cL_law 660 = .ok (.aload_n 0, 1) := by decide +kernel
theorem dL_law_661 : decode cL_law 661 = .ok (.iload 4, 2) := by decide +kernel
theorem dL_law_663 : decode cL_law 663 = .ok (.iconst 1, 1) := by decide +kernel
theorem dL_law_664 : decode cL_law 664 = .ok (.iadd, 1) := by decide +kernel
theorem dL_law_665 : decode cL_law 665 = .ok (.iaload, 1) := by decide +kernel
theorem dL_law_666 : decode cL_law 666 = .ok (.aload_n 0, 1) := by decide +kernel
theorem dL_law_667 : decode cL_law 667 = .ok (.iload 4, 2) := by decide +kernel
theorem dL_law_669 : decode cL_law 669 = .ok (.iconst 2, 1) := by decide +kernel
theorem dL_law_670 : decode cL_law 670 = .ok (.iadd, 1) := by decide +kernel
theorem dL_law_671 : decode cL_law 671 = .ok (.iaload, 1) := by decide +kernel
theorem dL_law_672 : decode cL_law 672 = .ok (.invokevirtual 82, 3) := by decide +kernel
theorem dL_law_675 : decode cL_law 675 = .ok (.aload_n 2, 1) := by decide +kernel
theorem dL_law_676 : decode cL_law 676 = .ok (.aload_n 0, 1) := by decide +kernel
theorem dL_law_677 : decode cL_law 677 = .ok (.iload 4, 2) := by decide +kernel
theorem dL_law_679 : decode cL_law 679 = .ok (.iconst 1, 1) := by decide +kernel
theorem dL_law_680 : decode cL_law 680 = .ok (.iadd, 1) := by decide +kernel
theorem dL_law_681 : decode cL_law 681 = .ok (.iaload, 1) := by decide +kernel
theorem dL_law_682 : decode cL_law 682 = .ok (.aload_n 0, 1) := by decide +kernel
theorem dL_law_683 : decode cL_law 683 = .ok (.iload 4, 2) := by decide +kernel
theorem dL_law_685 : decode cL_law 685 = .ok (.iconst 2, 1) := by decide +kernel
theorem dL_law_686 : decode cL_law 686 = .ok (.iadd, 1) := by decide +kernel
theorem dL_law_687 : decode cL_law 687 = .ok (.iaload, 1) := by decide +kernel
theorem dL_law_688 : decode cL_law 688 = .ok (.invokevirtual 85, 3) := by decide +kernel
theorem dL_law_691 : decode cL_law 691 = .ok (.if_icmp .eq 899, 3) := by decide +kernel
theorem dL_law_694 : decode cL_law 694 = .ok (.iconst 0, 1) := by decide +kernel
theorem dL_law_695 : decode cL_law 695 = .ok (.ireturn, 1) := by decide +kernel
theorem dL_law_696 : decode cL_law 696 = .ok (.aload_n 1, 1) := by decide +kernel
theorem dL_law_697 : decode cL_law 697 = .ok (.aload_n 0, 1) := by decide +kernel
theorem dL_law_698 : decode cL_law 698 = .ok (.iload 4, 2) := by decide +kernel
theorem dL_law_700 : decode cL_law 700 = .ok (.iconst 1, 1) := by decide +kernel
theorem dL_law_701 : decode cL_law 701 = .ok (.iadd, 1) := by decide +kernel
theorem dL_law_702 : decode cL_law 702 = .ok (.iaload, 1) := by decide +kernel
theorem dL_law_703 : decode cL_law 703 = .ok (.invokevirtual 86, 3) := by decide +kernel
theorem dL_law_706 : decode cL_law 706 = .ok (.aload_n 2, 1) := by decide +kernel
theorem dL_law_707 : decode cL_law 707 = .ok (.aload_n 0, 1) := by decide +kernel
theorem dL_law_708 : decode cL_law 708 = .ok (.iload 4, 2) := by decide +kernel
theorem dL_law_710 : decode cL_law 710 = .ok (.iconst 1, 1) := by decide +kernel
theorem dL_law_711 : decode cL_law 711 = .ok (.iadd, 1) := by decide +kernel
theorem dL_law_712 : decode cL_law 712 = .ok (.iaload, 1) := by decide +kernel
theorem dL_law_713 : decode cL_law 713 = .ok (.invokevirtual 89, 3) := by decide +kernel
theorem dL_law_716 : decode cL_law 716 = .ok (.if_icmp .eq 874, 3) := by decide +kernel
theorem dL_law_719 : decode cL_law 719 = .ok (.iconst 0, 1) := by decide +kernel
theorem dL_law_720 : decode cL_law 720 = .ok (.ireturn, 1) := by decide +kernel
theorem dL_law_721 : decode cL_law 721 = .ok (.aload_n 1, 1) := by decide +kernel
theorem dL_law_722 : decode cL_law 722 = .ok (.aload_n 0, 1) := by decide +kernel
theorem dL_law_723 : decode cL_law 723 = .ok (.iload 4, 2) := by decide +kernel
theorem dL_law_725 : decode cL_law 725 = .ok (.iconst 1, 1) := by decide +kernel
theorem dL_law_726 : decode cL_law 726 = .ok (.iadd, 1) := by decide +kernel
theorem dL_law_727 : decode cL_law 727 = .ok (.iaload, 1) := by decide +kernel
theorem dL_law_728 : decode cL_law 728 = .ok (.invokevirtual 90, 3) := by decide +kernel
theorem dL_law_731 : decode cL_law 731 = .ok (.aload_n 2, 1) := by decide +kernel
theorem dL_law_732 : decode cL_law 732 = .ok (.aload_n 0, 1) := by decide +kernel
theorem dL_law_733 : decode cL_law 733 = .ok (.iload 4, 2) := by decide +kernel
theorem dL_law_735 : decode cL_law 735 = .ok (.iconst 1, 1) := by decide +kernel
theorem dL_law_736 : decode cL_law 736 = .ok (.iadd, 1) := by decide +kernel
theorem dL_law_737 : decode cL_law 737 = .ok (.iaload, 1) := by decide +kernel
theorem dL_law_738 : decode cL_law 738 = .ok (.invokevirtual 93, 3) := by decide +kernel
theorem dL_law_741 : decode cL_law 741 = .ok (.if_icmp .eq 849, 3) := by decide +kernel
theorem dL_law_744 : decode cL_law 744 = .ok (.iconst 0, 1) := by decide +kernel
theorem dL_law_745 : decode cL_law 745 = .ok (.ireturn, 1) := by decide +kernel
theorem dL_law_746 : decode cL_law 746 = .ok (.aload_n 1, 1) := by decide +kernel
theorem dL_law_747 : decode cL_law 747 = .ok (.aload_n 0, 1) := by decide +kernel
theorem dL_law_748 : decode cL_law 748 = .ok (.iload 4, 2) := by decide +kernel
theorem dL_law_750 : decode cL_law 750 = .ok (.iconst 1, 1) := by decide +kernel
theorem dL_law_751 : decode cL_law 751 = .ok (.iadd, 1) := by decide +kernel
theorem dL_law_752 : decode cL_law 752 = .ok (.iaload, 1) := by decide +kernel
theorem dL_law_753 : decode cL_law 753 = .ok (.invokevirtual 94, 3) := by decide +kernel
theorem dL_law_756 : decode cL_law 756 = .ok (.aload_n 2, 1) := by decide +kernel
theorem dL_law_757 : decode cL_law 757 = .ok (.aload_n 0, 1) := by decide +kernel
theorem dL_law_758 : decode cL_law 758 = .ok (.iload 4, 2) := by decide +kernel
theorem dL_law_760 : decode cL_law 760 = .ok (.iconst 1, 1) := by decide +kernel
theorem dL_law_761 : decode cL_law 761 = .ok (.iadd, 1) := by decide +kernel
theorem dL_law_762 : decode cL_law 762 = .ok (.iaload, 1) := by decide +kernel
theorem dL_law_763 : decode cL_law 763 = .ok (.invokevirtual 97, 3) := by decide +kernel
theorem dL_law_766 : decode cL_law 766 = .ok (.if_icmp .eq 824, 3) := by decide +kernel
theorem dL_law_769 : decode cL_law 769 = .ok (.iconst 0, 1) := by decide +kernel
theorem dL_law_770 : decode cL_law 770 = .ok (.ireturn, 1) := by decide +kernel
theorem dL_law_771 : decode cL_law 771 = .ok (.aload_n 1, 1) := by decide +kernel
theorem dL_law_772 : decode cL_law 772 = .ok (.aload_n 0, 1) := by decide +kernel
theorem dL_law_773 : decode cL_law 773 = .ok (.iload 4, 2) := by decide +kernel
theorem dL_law_775 : decode cL_law 775 = .ok (.iconst 1, 1) := by decide +kernel
theorem dL_law_776 : decode cL_law 776 = .ok (.iadd, 1) := by decide +kernel
theorem dL_law_777 : decode cL_law 777 = .ok (.iaload, 1) := by decide +kernel
theorem dL_law_778 : decode cL_law 778 = .ok (.invokevirtual 98, 3) := by decide +kernel
theorem dL_law_781 : decode cL_law 781 = .ok (.aload_n 2, 1) := by decide +kernel
theorem dL_law_782 : decode cL_law 782 = .ok (.aload_n 0, 1) := by decide +kernel
theorem dL_law_783 : decode cL_law 783 = .ok (.iload 4, 2) := by decide +kernel
theorem dL_law_785 : decode cL_law 785 = .ok (.iconst 1, 1) := by decide +kernel
theorem dL_law_786 : decode cL_law 786 = .ok (.iadd, 1) := by decide +kernel
theorem dL_law_787 : decode cL_law 787 = .ok (.iaload, 1) := by decide +kernel
theorem dL_law_788 : decode cL_law 788 = .ok (.invokevirtual 101, 3) := by decide +kernel
theorem dL_law_791 : decode cL_law 791 = .ok (.if_icmp .eq 799, 3) := by decide +kernel
theorem dL_law_794 : decode cL_law 794 = .ok (.iconst 0, 1) := by decide +kernel
theorem dL_law_795 : decode cL_law 795 = .ok (.ireturn, 1) := by decide +kernel
theorem dL_law_796 : decode cL_law 796 = .ok (.aload_n 1, 1) := by decide +kernel
theorem dL_law_797 : decode cL_law 797 = .ok (.aload_n 0, 1) := by decide +kernel
theorem dL_law_798 : decode cL_law 798 = .ok (.iload 4, 2) := by decide +kernel
theorem dL_law_800 : decode cL_law 800 = .ok (.iconst 1, 1) := by decide +kernel
theorem dL_law_801 : decode cL_law 801 = .ok (.iadd, 1) := by decide +kernel
theorem dL_law_802 : decode cL_law 802 = .ok (.iaload, 1) := by decide +kernel
theorem dL_law_803 : decode cL_law 803 = .ok (.invokevirtual 102, 3) := by decide +kernel
theorem dL_law_806 : decode cL_law 806 = .ok (.aload_n 2, 1) := by decide +kernel
theorem dL_law_807 : decode cL_law 807 = .ok (.aload_n 0, 1) := by decide +kernel
theorem dL_law_808 : decode cL_law 808 = .ok (.iload 4, 2) := by decide +kernel
theorem dL_law_810 : decode cL_law 810 = .ok (.iconst 1, 1) := by decide +kernel
theorem dL_law_811 : decode cL_law 811 = .ok (.iadd, 1) := by decide +kernel
theorem dL_law_812 : decode cL_law 812 = .ok (.iaload, 1) := by decide +kernel
theorem dL_law_813 : decode cL_law 813 = .ok (.invokevirtual 105, 3) := by decide +kernel
theorem dL_law_816 : decode cL_law 816 = .ok (.if_icmp .eq 774, 3) := by decide +kernel
theorem dL_law_819 : decode cL_law 819 = .ok (.iconst 0, 1) := by decide +kernel
theorem dL_law_820 : decode cL_law 820 = .ok (.ireturn, 1) := by decide +kernel
theorem dL_law_821 : decode cL_law 821 = .ok (.aload_n 1, 1) := by decide +kernel
theorem dL_law_822 : decode cL_law 822 = .ok (.aload_n 0, 1) := by decide +kernel
theorem dL_law_823 : decode cL_law 823 = .ok (.iload 4, 2) := by decide +kernel
theorem dL_law_825 : decode cL_law 825 = .ok (.iconst 1, 1) := by decide +kernel
theorem dL_law_826 : decode cL_law 826 = .ok (.iadd, 1) := by decide +kernel
theorem dL_law_827 : decode cL_law 827 = .ok (.iaload, 1) := by decide +kernel
theorem dL_law_828 : decode cL_law 828 = .ok (.invokevirtual 106, 3) := by decide +kernel
theorem dL_law_831 : decode cL_law 831 = .ok (.aload_n 2, 1) := by decide +kernel
theorem dL_law_832 : decode cL_law 832 = .ok (.aload_n 0, 1) := by decide +kernel
theorem dL_law_833 : decode cL_law 833 = .ok (.iload 4, 2) := by decide +kernel
theorem dL_law_835 : decode cL_law 835 = .ok (.iconst 1, 1) := by decide +kernel
theorem dL_law_836 : decode cL_law 836 = .ok (.iadd, 1) := by decide +kernel
theorem dL_law_837 : decode cL_law 837 = .ok (.iaload, 1) := by decide +kernel
theorem dL_law_838 : decode cL_law 838 = .ok (.invokevirtual 109, 3) := by decide +kernel
theorem dL_law_841 : decode cL_law 841 = .ok (.if_icmp .eq 749, 3) := by decide +kernel
theorem dL_law_844 : decode cL_law 844 = .ok (.iconst 0, 1) := by decide +kernel
theorem dL_law_845 : decode cL_law 845 = .ok (.ireturn, 1) := by decide +kernel
theorem dL_law_846 : decode cL_law 846 = .ok (.aload_n 1, 1) := by decide +kernel
theorem dL_law_847 : decode cL_law 847 = .ok (.aload_n 0, 1) := by decide +kernel
theorem dL_law_848 : decode cL_law 848 = .ok (.iload 4, 2) := by decide +kernel
theorem dL_law_850 : decode cL_law 850 = .ok (.iconst 1, 1) := by decide +kernel
theorem dL_law_851 : decode cL_law 851 = .ok (.iadd, 1) := by decide +kernel
theorem dL_law_852 : decode cL_law 852 = .ok (.iaload, 1) := by decide +kernel
theorem dL_law_853 : decode cL_law 853 = .ok (.aload_n 0, 1) := by decide +kernel
theorem dL_law_854 : decode cL_law 854 = .ok (.iload 4, 2) := by decide +kernel
theorem dL_law_856 : decode cL_law 856 = .ok (.iconst 2, 1) := by decide +kernel
theorem dL_law_857 : decode cL_law 857 = .ok (.iadd, 1) := by decide +kernel
theorem dL_law_858 : decode cL_law 858 = .ok (.iaload, 1) := by decide +kernel
theorem dL_law_859 : decode cL_law 859 = .ok (.invokevirtual 110, 3) := by decide +kernel
theorem dL_law_862 : decode cL_law 862 = .ok (.aload_n 2, 1) := by decide +kernel
theorem dL_law_863 : decode cL_law 863 = .ok (.aload_n 0, 1) := by decide +kernel
theorem dL_law_864 : decode cL_law 864 = .ok (.iload 4, 2) := by decide +kernel
theorem dL_law_866 : decode cL_law 866 = .ok (.iconst 1, 1) := by decide +kernel
theorem dL_law_867 : decode cL_law 867 = .ok (.iadd, 1) := by decide +kernel
theorem dL_law_868 : decode cL_law 868 = .ok (.iaload, 1) := by decide +kernel
theorem dL_law_869 : decode cL_law 869 = .ok (.aload_n 0, 1) := by decide +kernel
theorem dL_law_870 : decode cL_law 870 = .ok (.iload 4, 2) := by decide +kernel
theorem dL_law_872 : decode cL_law 872 = .ok (.iconst 2, 1) := by decide +kernel
theorem dL_law_873 : decode cL_law 873 = .ok (.iadd, 1) := by decide +kernel
theorem dL_law_874 : decode cL_law 874 = .ok (.iaload, 1) := by decide +kernel
theorem dL_law_875 : decode cL_law 875 = .ok (.invokevirtual 113, 3) := by decide +kernel
theorem dL_law_878 : decode cL_law 878 = .ok (.if_icmp .eq 712, 3) := by decide +kernel
theorem dL_law_881 : decode cL_law 881 = .ok (.iconst 0, 1) := by decide +kernel
theorem dL_law_882 : decode cL_law 882 = .ok (.ireturn, 1) := by decide +kernel
theorem dL_law_883 : decode cL_law 883 = .ok (.aload_n 1, 1) := by decide +kernel
theorem dL_law_884 : decode cL_law 884 = .ok (.aload_n 0, 1) := by decide +kernel
theorem dL_law_885 : decode cL_law 885 = .ok (.iload 4, 2) := by decide +kernel
theorem dL_law_887 : decode cL_law 887 = .ok (.iconst 1, 1) := by decide +kernel
theorem dL_law_888 : decode cL_law 888 = .ok (.iadd, 1) := by decide +kernel
theorem dL_law_889 : decode cL_law 889 = .ok (.iaload, 1) := by decide +kernel
theorem dL_law_890 : decode cL_law 890 = .ok (.aload_n 0, 1) := by decide +kernel
theorem dL_law_891 : decode cL_law 891 = .ok (.iload 4, 2) := by decide +kernel
theorem dL_law_893 : decode cL_law 893 = .ok (.iconst 2, 1) := by decide +kernel
theorem dL_law_894 : decode cL_law 894 = .ok (.iadd, 1) := by decide +kernel
theorem dL_law_895 : decode cL_law 895 = .ok (.iaload, 1) := by decide +kernel
theorem dL_law_896 : decode cL_law 896 = .ok (.invokevirtual 114, 3) := by decide +kernel
theorem dL_law_899 : decode cL_law 899 = .ok (.aload_n 2, 1) := by decide +kernel
theorem dL_law_900 : decode cL_law 900 = .ok (.aload_n 0, 1) := by decide +kernel
theorem dL_law_901 : decode cL_law 901 = .ok (.iload 4, 2) := by decide +kernel
theorem dL_law_903 : decode cL_law 903 = .ok (.iconst 1, 1) := by decide +kernel
theorem dL_law_904 : decode cL_law 904 = .ok (.iadd, 1) := by decide +kernel
theorem dL_law_905 : decode cL_law 905 = .ok (.iaload, 1) := by decide +kernel
theorem dL_law_906 : decode cL_law 906 = .ok (.aload_n 0, 1) := by decide +kernel
theorem dL_law_907 : decode cL_law 907 = .ok (.iload 4, 2) := by decide +kernel
theorem dL_law_909 : decode cL_law 909 = .ok (.iconst 2, 1) := by decide +kernel
theorem dL_law_910 : decode cL_law 910 = .ok (.iadd, 1) := by decide +kernel
theorem dL_law_911 : decode cL_law 911 = .ok (.iaload, 1) := by decide +kernel
theorem dL_law_912 : decode cL_law 912 = .ok (.invokevirtual 117, 3) := by decide +kernel
theorem dL_law_915 : decode cL_law 915 = .ok (.if_icmp .eq 675, 3) := by decide +kernel
theorem dL_law_918 : decode cL_law 918 = .ok (.iconst 0, 1) := by decide +kernel
theorem dL_law_919 : decode cL_law 919 = .ok (.ireturn, 1) := by decide +kernel
theorem dL_law_920 : decode cL_law 920 = .ok (.aload_n 1, 1) := by decide +kernel
theorem dL_law_921 : decode cL_law 921 = .ok (.invokevirtual 118, 3) := by decide +kernel
theorem dL_law_924 : decode cL_law 924 = .ok (.aload_n 2, 1) := by decide +kernel
theorem dL_law_925 : decode cL_law 925 = .ok (.invokevirtual 121, 3) := by decide +kernel
theorem dL_law_928 : decode cL_law 928 = .ok (.if_icmp .eq 662, 3) := by decide +kernel
theorem dL_law_931 : decode cL_law 931 = .ok (.iconst 0, 1) := by decide +kernel
theorem dL_law_932 : decode cL_law 932 = .ok (.ireturn, 1) := by decide +kernel
theorem dL_law_933 : decode cL_law 933 = .ok (.aload_n 1, 1) := by decide +kernel
theorem dL_law_934 : decode cL_law 934 = .ok (.invokevirtual 122, 3) := by decide +kernel
theorem dL_law_937 : decode cL_law 937 = .ok (.aload_n 2, 1) := by decide +kernel
theorem dL_law_938 : decode cL_law 938 = .ok (.invokevirtual 125, 3) := by decide +kernel
theorem dL_law_941 : decode cL_law 941 = .ok (.if_icmp .eq 649, 3) := by decide +kernel
theorem dL_law_944 : decode cL_law 944 = .ok (.iconst 0, 1) := by decide +kernel
theorem dL_law_945 : decode cL_law 945 = .ok (.ireturn, 1) := by decide +kernel
theorem dL_law_946 : decode cL_law 946 = .ok (.aload_n 1, 1) := by decide +kernel
theorem dL_law_947 : decode cL_law 947 = .ok (.aload_n 0, 1) := by decide +kernel
theorem dL_law_948 : decode cL_law 948 = .ok (.iload 4, 2) := by decide +kernel
theorem dL_law_950 : decode cL_law 950 = .ok (.iconst 1, 1) := by decide +kernel
theorem dL_law_951 : decode cL_law 951 = .ok (.iadd, 1) := by decide +kernel
theorem dL_law_952 : decode cL_law 952 = .ok (.iaload, 1) := by decide +kernel
theorem dL_law_953 : decode cL_law 953 = .ok (.invokevirtual 126, 3) := by decide +kernel
theorem dL_law_956 : decode cL_law 956 = .ok (.aload_n 2, 1) := by decide +kernel
theorem dL_law_957 : decode cL_law 957 = .ok (.aload_n 0, 1) := by decide +kernel
theorem dL_law_958 : decode cL_law 958 = .ok (.iload 4, 2) := by decide +kernel
theorem dL_law_960 : decode cL_law 960 = .ok (.iconst 1, 1) := by decide +kernel
theorem dL_law_961 : decode cL_law 961 = .ok (.iadd, 1) := by decide +kernel
theorem dL_law_962 : decode cL_law 962 = .ok (.iaload, 1) := by decide +kernel
theorem dL_law_963 : decode cL_law 963 = .ok (.invokevirtual 129, 3) := by decide +kernel
theorem dL_law_966 : decode cL_law 966 = .ok (.if_icmp .eq 624, 3) := by decide +kernel
theorem dL_law_969 : decode cL_law 969 = .ok (.iconst 0, 1) := by decide +kernel
theorem dL_law_970 : decode cL_law 970 = .ok (.ireturn, 1) := by decide +kernel
theorem dL_law_971 : decode cL_law 971 = .ok (.aload_n 1, 1) := by decide +kernel
theorem dL_law_972 : decode cL_law 972 = .ok (.aload_n 0, 1) := by decide +kernel
theorem dL_law_973 : decode cL_law 973 = .ok (.iload 4, 2) := by decide +kernel
theorem dL_law_975 : decode cL_law 975 = .ok (.iconst 1, 1) := by decide +kernel
theorem dL_law_976 : decode cL_law 976 = .ok (.iadd, 1) := by decide +kernel
theorem dL_law_977 : decode cL_law 977 = .ok (.iaload, 1) := by decide +kernel
theorem dL_law_978 : decode cL_law 978 = .ok (.invokevirtual 130, 3) := by decide +kernel
theorem dL_law_981 : decode cL_law 981 = .ok (.aload_n 2, 1) := by decide +kernel
theorem dL_law_982 : decode cL_law 982 = .ok (.aload_n 0, 1) := by decide +kernel
theorem dL_law_983 : decode cL_law 983 = .ok (.iload 4, 2) := by decide +kernel
theorem dL_law_985 : decode cL_law 985 = .ok (.iconst 1, 1) := by decide +kernel
theorem dL_law_986 : decode cL_law 986 = .ok (.iadd, 1) := by decide +kernel
theorem dL_law_987 : decode cL_law 987 = .ok (.iaload, 1) := by decide +kernel
theorem dL_law_988 : decode cL_law 988 = .ok (.invokevirtual 133, 3) := by decide +kernel
theorem dL_law_991 : decode cL_law 991 = .ok (.if_icmp .eq 599, 3) := by decide +kernel
theorem dL_law_994 : decode cL_law 994 = .ok (.iconst 0, 1) := by decide +kernel
theorem dL_law_995 : decode cL_law 995 = .ok (.ireturn, 1) := by decide +kernel
theorem dL_law_996 : decode cL_law 996 = .ok (.aload_n 1, 1) := by decide +kernel
theorem dL_law_997 : decode cL_law 997 = .ok (.aload_n 0, 1) := by decide +kernel
theorem dL_law_998 : decode cL_law 998 = .ok (.iload 4, 2) := by decide +kernel
theorem dL_law_1000 : decode cL_law 1000 = .ok (.iconst 1, 1) := by decide +kernel
theorem dL_law_1001 : decode cL_law 1001 = .ok (.iadd, 1) := by decide +kernel
theorem dL_law_1002 : decode cL_law 1002 = .ok (.iaload, 1) := by decide +kernel
theorem dL_law_1003 : decode cL_law 1003 = .ok (.invokevirtual 134, 3) := by decide +kernel
theorem dL_law_1006 : decode cL_law 1006 = .ok (.aload_n 2, 1) := by decide +kernel
theorem dL_law_1007 : decode cL_law 1007 = .ok (.aload_n 0, 1) := by decide +kernel
theorem dL_law_1008 : decode cL_law 1008 = .ok (.iload 4, 2) := by decide +kernel
theorem dL_law_1010 : decode cL_law 1010 = .ok (.iconst 1, 1) := by decide +kernel
theorem dL_law_1011 : decode cL_law 1011 = .ok (.iadd, 1) := by decide +kernel
theorem dL_law_1012 : decode cL_law 1012 = .ok (.iaload, 1) := by decide +kernel
theorem dL_law_1013 : decode cL_law 1013 = .ok (.invokevirtual 137, 3) := by decide +kernel
theorem dL_law_1016 : decode cL_law 1016 = .ok (.if_icmp .eq 574, 3) := by decide +kernel
theorem dL_law_1019 : decode cL_law 1019 = .ok (.iconst 0, 1) := by decide +kernel
theorem dL_law_1020 : decode cL_law 1020 = .ok (.ireturn, 1) := by decide +kernel
theorem dL_law_1021 : decode cL_law 1021 = .ok (.aload_n 1, 1) := by decide +kernel
theorem dL_law_1022 : decode cL_law 1022 = .ok (.aload_n 0, 1) := by decide +kernel
theorem dL_law_1023 : decode cL_law 1023 = .ok (.iload 4, 2) := by decide +kernel
theorem dL_law_1025 : decode cL_law 1025 = .ok (.iconst 1, 1) := by decide +kernel
theorem dL_law_1026 : decode cL_law 1026 = .ok (.iadd, 1) := by decide +kernel
theorem dL_law_1027 : decode cL_law 1027 = .ok (.iaload, 1) := by decide +kernel
theorem dL_law_1028 : decode cL_law 1028 = .ok (.aload_n 0, 1) := by decide +kernel
theorem dL_law_1029 : decode cL_law 1029 = .ok (.iload 4, 2) := by decide +kernel
theorem dL_law_1031 : decode cL_law 1031 = .ok (.iconst 2, 1) := by decide +kernel
theorem dL_law_1032 : decode cL_law 1032 = .ok (.iadd, 1) := by decide +kernel
theorem dL_law_1033 : decode cL_law 1033 = .ok (.iaload, 1) := by decide +kernel
theorem dL_law_1034 : decode cL_law 1034 = .ok (.invokevirtual 138, 3) := by decide +kernel
theorem dL_law_1037 : decode cL_law 1037 = .ok (.aload_n 2, 1) := by decide +kernel
theorem dL_law_1038 : decode cL_law 1038 = .ok (.aload_n 0, 1) := by decide +kernel
theorem dL_law_1039 : decode cL_law 1039 = .ok (.iload 4, 2) := by decide +kernel
theorem dL_law_1041 : decode cL_law 1041 = .ok (.iconst 1, 1) := by decide +kernel
theorem dL_law_1042 : decode cL_law 1042 = .ok (.iadd, 1) := by decide +kernel
theorem dL_law_1043 : decode cL_law 1043 = .ok (.iaload, 1) := by decide +kernel
theorem dL_law_1044 : decode cL_law 1044 = .ok (.aload_n 0, 1) := by decide +kernel
theorem dL_law_1045 : decode cL_law 1045 = .ok (.iload 4, 2) := by decide +kernel
theorem dL_law_1047 : decode cL_law 1047 = .ok (.iconst 2, 1) := by decide +kernel
theorem dL_law_1048 : decode cL_law 1048 = .ok (.iadd, 1) := by decide +kernel
theorem dL_law_1049 : decode cL_law 1049 = .ok (.iaload, 1) := by decide +kernel
theorem dL_law_1050 : decode cL_law 1050 = .ok (.invokevirtual 141, 3) := by decide +kernel
theorem dL_law_1053 : decode cL_law 1053 = .ok (.if_icmp .eq 537, 3) := by decide +kernel
theorem dL_law_1056 : decode cL_law 1056 = .ok (.iconst 0, 1) := by decide +kernel
theorem dL_law_1057 : decode cL_law 1057 = .ok (.ireturn, 1) := by decide +kernel
theorem dL_law_1058 : decode cL_law 1058 = .ok (.aload_n 1, 1) := by decide +kernel
theorem dL_law_1059 : decode cL_law 1059 = .ok (.aload_n 0, 1) := by decide +kernel
theorem dL_law_1060 : decode cL_law 1060 = .ok (.iload 4, 2) := by decide +kernel
theorem dL_law_1062 : decode cL_law 1062 = .ok (.iconst 1, 1) := by decide +kernel
theorem dL_law_1063 : decode cL_law 1063 = .ok (.iadd, 1) := by decide +kernel
theorem dL_law_1064 : decode cL_law 1064 = .ok (.iaload, 1) := by decide +kernel
theorem dL_law_1065 : decode cL_law 1065 = .ok (.aload_n 0, 1) := by decide +kernel
theorem dL_law_1066 : decode cL_law 1066 = .ok (.iload 4, 2) := by decide +kernel
theorem dL_law_1068 : decode cL_law 1068 = .ok (.iconst 2, 1) := by decide +kernel
theorem dL_law_1069 : decode cL_law 1069 = .ok (.iadd, 1) := by decide +kernel
theorem dL_law_1070 : decode cL_law 1070 = .ok (.iaload, 1) := by decide +kernel
theorem dL_law_1071 : decode cL_law 1071 = .ok (.aload_n 0, 1) := by decide +kernel
theorem dL_law_1072 : decode cL_law 1072 = .ok (.iload 4, 2) := by decide +kernel
theorem dL_law_1074 : decode cL_law 1074 = .ok (.iconst 3, 1) := by decide +kernel
theorem dL_law_1075 : decode cL_law 1075 = .ok (.iadd, 1) := by decide +kernel
theorem dL_law_1076 : decode cL_law 1076 = .ok (.iaload, 1) := by decide +kernel
theorem dL_law_1077 : decode cL_law 1077 = .ok (.invokevirtual 142, 3) := by decide +kernel
theorem dL_law_1080 : decode cL_law 1080 = .ok (.aload_n 2, 1) := by decide +kernel
theorem dL_law_1081 : decode cL_law 1081 = .ok (.aload_n 0, 1) := by decide +kernel
theorem dL_law_1082 : decode cL_law 1082 = .ok (.iload 4, 2) := by decide +kernel
theorem dL_law_1084 : decode cL_law 1084 = .ok (.iconst 1, 1) := by decide +kernel
theorem dL_law_1085 : decode cL_law 1085 = .ok (.iadd, 1) := by decide +kernel
theorem dL_law_1086 : decode cL_law 1086 = .ok (.iaload, 1) := by decide +kernel
theorem dL_law_1087 : decode cL_law 1087 = .ok (.aload_n 0, 1) := by decide +kernel
theorem dL_law_1088 : decode cL_law 1088 = .ok (.iload 4, 2) := by decide +kernel
theorem dL_law_1090 : decode cL_law 1090 = .ok (.iconst 2, 1) := by decide +kernel
theorem dL_law_1091 : decode cL_law 1091 = .ok (.iadd, 1) := by decide +kernel
theorem dL_law_1092 : decode cL_law 1092 = .ok (.iaload, 1) := by decide +kernel
theorem dL_law_1093 : decode cL_law 1093 = .ok (.aload_n 0, 1) := by decide +kernel
theorem dL_law_1094 : decode cL_law 1094 = .ok (.iload 4, 2) := by decide +kernel
theorem dL_law_1096 : decode cL_law 1096 = .ok (.iconst 3, 1) := by decide +kernel
theorem dL_law_1097 : decode cL_law 1097 = .ok (.iadd, 1) := by decide +kernel
theorem dL_law_1098 : decode cL_law 1098 = .ok (.iaload, 1) := by decide +kernel
theorem dL_law_1099 : decode cL_law 1099 = .ok (.invokevirtual 146, 3) := by decide +kernel
theorem dL_law_1102 : decode cL_law 1102 = .ok (.if_icmp .eq 488, 3) := by decide +kernel
theorem dL_law_1105 : decode cL_law 1105 = .ok (.iconst 0, 1) := by decide +kernel
theorem dL_law_1106 : decode cL_law 1106 = .ok (.ireturn, 1) := by decide +kernel
theorem dL_law_1107 : decode cL_law 1107 = .ok (.aload_n 1, 1) := by decide +kernel
theorem dL_law_1108 : decode cL_law 1108 = .ok (.aload_n 0, 1) := by decide +kernel
theorem dL_law_1109 : decode cL_law 1109 = .ok (.iload 4, 2) := by decide +kernel
theorem dL_law_1111 : decode cL_law 1111 = .ok (.iconst 1, 1) := by decide +kernel
theorem dL_law_1112 : decode cL_law 1112 = .ok (.iadd, 1) := by decide +kernel
theorem dL_law_1113 : decode cL_law 1113 = .ok (.iaload, 1) := by decide +kernel
theorem dL_law_1114 : decode cL_law 1114 = .ok (.aload_n 0, 1) := by decide +kernel
theorem dL_law_1115 : decode cL_law 1115 = .ok (.iload 4, 2) := by decide +kernel
theorem dL_law_1117 : decode cL_law 1117 = .ok (.iconst 2, 1) := by decide +kernel
theorem dL_law_1118 : decode cL_law 1118 = .ok (.iadd, 1) := by decide +kernel
theorem dL_law_1119 : decode cL_law 1119 = .ok (.iaload, 1) := by decide +kernel
theorem dL_law_1120 : decode cL_law 1120 = .ok (.invokevirtual 147, 3) := by decide +kernel
theorem dL_law_1123 : decode cL_law 1123 = .ok (.aload_n 2, 1) := by decide +kernel
theorem dL_law_1124 : decode cL_law 1124 = .ok (.aload_n 0, 1) := by decide +kernel
theorem dL_law_1125 : decode cL_law 1125 = .ok (.iload 4, 2) := by decide +kernel
theorem dL_law_1127 : decode cL_law 1127 = .ok (.iconst 1, 1) := by decide +kernel
theorem dL_law_1128 : decode cL_law 1128 = .ok (.iadd, 1) := by decide +kernel
theorem dL_law_1129 : decode cL_law 1129 = .ok (.iaload, 1) := by decide +kernel
theorem dL_law_1130 : decode cL_law 1130 = .ok (.aload_n 0, 1) := by decide +kernel
theorem dL_law_1131 : decode cL_law 1131 = .ok (.iload 4, 2) := by decide +kernel
theorem dL_law_1133 : decode cL_law 1133 = .ok (.iconst 2, 1) := by decide +kernel
theorem dL_law_1134 : decode cL_law 1134 = .ok (.iadd, 1) := by decide +kernel
theorem dL_law_1135 : decode cL_law 1135 = .ok (.iaload, 1) := by decide +kernel
theorem dL_law_1136 : decode cL_law 1136 = .ok (.invokevirtual 150, 3) := by decide +kernel
theorem dL_law_1139 : decode cL_law 1139 = .ok (.if_icmp .eq 451, 3) := by decide +kernel
theorem dL_law_1142 : decode cL_law 1142 = .ok (.iconst 0, 1) := by decide +kernel
theorem dL_law_1143 : decode cL_law 1143 = .ok (.ireturn, 1) := by decide +kernel
theorem dL_law_1144 : decode cL_law 1144 = .ok (.aload_n 1, 1) := by decide +kernel
theorem dL_law_1145 : decode cL_law 1145 = .ok (.invokevirtual 151, 3) := by decide +kernel
theorem dL_law_1148 : decode cL_law 1148 = .ok (.aload_n 2, 1) := by decide +kernel
theorem dL_law_1149 : decode cL_law 1149 = .ok (.invokevirtual 154, 3) := by decide +kernel
theorem dL_law_1152 : decode cL_law 1152 = .ok (.if_icmp .eq 438, 3) := by decide +kernel
theorem dL_law_1155 : decode cL_law 1155 = .ok (.iconst 0, 1) := by decide +kernel
theorem dL_law_1156 : decode cL_law 1156 = .ok (.ireturn, 1) := by decide +kernel
theorem dL_law_1157 : decode cL_law 1157 = .ok (.aload_n 1, 1) := by decide +kernel
theorem dL_law_1158 : decode cL_law 1158 = .ok (.invokevirtual 155, 3) := by decide +kernel
theorem dL_law_1161 : decode cL_law 1161 = .ok (.aload_n 2, 1) := by decide +kernel
theorem dL_law_1162 : decode cL_law 1162 = .ok (.invokevirtual 158, 3) := by decide +kernel
theorem dL_law_1165 : decode cL_law 1165 = .ok (.if_icmp .eq 425, 3) := by decide +kernel
theorem dL_law_1168 : decode cL_law 1168 = .ok (.iconst 0, 1) := by decide +kernel
theorem dL_law_1169 : decode cL_law 1169 = .ok (.ireturn, 1) := by decide +kernel
theorem dL_law_1170 : decode cL_law 1170 = .ok (.aload_n 1, 1) := by decide +kernel
theorem dL_law_1171 : decode cL_law 1171 = .ok (.invokevirtual 159, 3) := by decide +kernel
theorem dL_law_1174 : decode cL_law 1174 = .ok (.aload_n 2, 1) := by decide +kernel
theorem dL_law_1175 : decode cL_law 1175 = .ok (.invokevirtual 162, 3) := by decide +kernel
theorem dL_law_1178 : decode cL_law 1178 = .ok (.if_icmp .eq 412, 3) := by decide +kernel
theorem dL_law_1181 : decode cL_law 1181 = .ok (.iconst 0, 1) := by decide +kernel
theorem dL_law_1182 : decode cL_law 1182 = .ok (.ireturn, 1) := by decide +kernel
theorem dL_law_1183 : decode cL_law 1183 = .ok (.aload_n 1, 1) := by decide +kernel
theorem dL_law_1184 : decode cL_law 1184 = .ok (.invokevirtual 163, 3) := by decide +kernel
theorem dL_law_1187 : decode cL_law 1187 = .ok (.aload_n 2, 1) := by decide +kernel
theorem dL_law_1188 : decode cL_law 1188 = .ok (.invokevirtual 166, 3) := by decide +kernel
theorem dL_law_1191 : decode cL_law 1191 = .ok (.if_icmp .eq 399, 3) := by decide +kernel
theorem dL_law_1194 : decode cL_law 1194 = .ok (.iconst 0, 1) := by decide +kernel
theorem dL_law_1195 : decode cL_law 1195 = .ok (.ireturn, 1) := by decide +kernel
theorem dL_law_1196 : decode cL_law 1196 = .ok (.aload_n 1, 1) := by decide +kernel
theorem dL_law_1197 : decode cL_law 1197 = .ok (.invokevirtual 167, 3) := by decide +kernel
theorem dL_law_1200 : decode cL_law 1200 = .ok (.aload_n 2, 1) := by decide +kernel
theorem dL_law_1201 : decode cL_law 1201 = .ok (.invokevirtual 170, 3) := by decide +kernel
theorem dL_law_1204 : decode cL_law 1204 = .ok (.if_icmp .eq 386, 3) := by decide +kernel
theorem dL_law_1207 : decode cL_law 1207 = .ok (.iconst 0, 1) := by decide +kernel
theorem dL_law_1208 : decode cL_law 1208 = .ok (.ireturn, 1) := by decide +kernel
theorem dL_law_1209 : decode cL_law 1209 = .ok (.aload_n 1, 1) := by decide +kernel
theorem dL_law_1210 : decode cL_law 1210 = .ok (.aload_n 0, 1) := by decide +kernel
theorem dL_law_1211 : decode cL_law 1211 = .ok (.iload 4, 2) := by decide +kernel
theorem dL_law_1213 : decode cL_law 1213 = .ok (.iconst 1, 1) := by decide +kernel
theorem dL_law_1214 : decode cL_law 1214 = .ok (.iadd, 1) := by decide +kernel
theorem dL_law_1215 : decode cL_law 1215 = .ok (.iaload, 1) := by decide +kernel
theorem dL_law_1216 : decode cL_law 1216 = .ok (.invokevirtual 171, 3) := by decide +kernel
theorem dL_law_1219 : decode cL_law 1219 = .ok (.aload_n 2, 1) := by decide +kernel
theorem dL_law_1220 : decode cL_law 1220 = .ok (.aload_n 0, 1) := by decide +kernel
theorem dL_law_1221 : decode cL_law 1221 = .ok (.iload 4, 2) := by decide +kernel
theorem dL_law_1223 : decode cL_law 1223 = .ok (.iconst 1, 1) := by decide +kernel
theorem dL_law_1224 : decode cL_law 1224 = .ok (.iadd, 1) := by decide +kernel
theorem dL_law_1225 : decode cL_law 1225 = .ok (.iaload, 1) := by decide +kernel
theorem dL_law_1226 : decode cL_law 1226 = .ok (.invokevirtual 174, 3) := by decide +kernel
theorem dL_law_1229 : decode cL_law 1229 = .ok (.if_icmp .eq 361, 3) := by decide +kernel
theorem dL_law_1232 : decode cL_law 1232 = .ok (.iconst 0, 1) := by decide +kernel
theorem dL_law_1233 : decode cL_law 1233 = .ok (.ireturn, 1) := by decide +kernel
theorem dL_law_1234 : decode cL_law 1234 = .ok (.aload_n 1, 1) := by decide +kernel
theorem dL_law_1235 : decode cL_law 1235 = .ok (.aload_n 0, 1) := by decide +kernel
theorem dL_law_1236 : decode cL_law 1236 = .ok (.iload 4, 2) := by decide +kernel
theorem dL_law_1238 : decode cL_law 1238 = .ok (.iconst 1, 1) := by decide +kernel
theorem dL_law_1239 : decode cL_law 1239 = .ok (.iadd, 1) := by decide +kernel
theorem dL_law_1240 : decode cL_law 1240 = .ok (.iaload, 1) := by decide +kernel
theorem dL_law_1241 : decode cL_law 1241 = .ok (.invokevirtual 175, 3) := by decide +kernel
theorem dL_law_1244 : decode cL_law 1244 = .ok (.aload_n 2, 1) := by decide +kernel
theorem dL_law_1245 : decode cL_law 1245 = .ok (.aload_n 0, 1) := by decide +kernel
theorem dL_law_1246 : decode cL_law 1246 = .ok (.iload 4, 2) := by decide +kernel
theorem dL_law_1248 : decode cL_law 1248 = .ok (.iconst 1, 1) := by decide +kernel
theorem dL_law_1249 : decode cL_law 1249 = .ok (.iadd, 1) := by decide +kernel
theorem dL_law_1250 : decode cL_law 1250 = .ok (.iaload, 1) := by decide +kernel
theorem dL_law_1251 : decode cL_law 1251 = .ok (.invokevirtual 179, 3) := by decide +kernel
theorem dL_law_1254 : decode cL_law 1254 = .ok (.if_icmp .eq 336, 3) := by decide +kernel
theorem dL_law_1257 : decode cL_law 1257 = .ok (.iconst 0, 1) := by decide +kernel
theorem dL_law_1258 : decode cL_law 1258 = .ok (.ireturn, 1) := by decide +kernel
theorem dL_law_1259 : decode cL_law 1259 = .ok (.aload_n 1, 1) := by decide +kernel
theorem dL_law_1260 : decode cL_law 1260 = .ok (.aload_n 0, 1) := by decide +kernel
theorem dL_law_1261 : decode cL_law 1261 = .ok (.iload 4, 2) := by decide +kernel
theorem dL_law_1263 : decode cL_law 1263 = .ok (.iconst 1, 1) := by decide +kernel
theorem dL_law_1264 : decode cL_law 1264 = .ok (.iadd, 1) := by decide +kernel
theorem dL_law_1265 : decode cL_law 1265 = .ok (.iaload, 1) := by decide +kernel
theorem dL_law_1266 : decode cL_law 1266 = .ok (.aload_n 0, 1) := by decide +kernel
theorem dL_law_1267 : decode cL_law 1267 = .ok (.iload 4, 2) := by decide +kernel
theorem dL_law_1269 : decode cL_law 1269 = .ok (.iconst 2, 1) := by decide +kernel
theorem dL_law_1270 : decode cL_law 1270 = .ok (.iadd, 1) := by decide +kernel
theorem dL_law_1271 : decode cL_law 1271 = .ok (.iaload, 1) := by decide +kernel
theorem dL_law_1272 : decode cL_law 1272 = .ok (.invokevirtual 180, 3) := by decide +kernel
theorem dL_law_1275 : decode cL_law 1275 = .ok (.aload_n 2, 1) := by decide +kernel
theorem dL_law_1276 : decode cL_law 1276 = .ok (.aload_n 0, 1) := by decide +kernel
theorem dL_law_1277 : decode cL_law 1277 = .ok (.iload 4, 2) := by decide +kernel
theorem dL_law_1279 : decode cL_law 1279 = .ok (.iconst 1, 1) := by decide +kernel
theorem dL_law_1280 : decode cL_law 1280 = .ok (.iadd, 1) := by decide +kernel
theorem dL_law_1281 : decode cL_law 1281 = .ok (.iaload, 1) := by decide +kernel
theorem dL_law_1282 : decode cL_law 1282 = .ok (.aload_n 0, 1) := by decide +kernel
theorem dL_law_1283 : decode cL_law 1283 = .ok (.iload 4, 2) := by decide +kernel
theorem dL_law_1285 : decode cL_law 1285 = .ok (.iconst 2, 1) := by decide +kernel
theorem dL_law_1286 : decode cL_law 1286 = .ok (.iadd, 1) := by decide +kernel
theorem dL_law_1287 : decode cL_law 1287 = .ok (.iaload, 1) := by decide +kernel
theorem dL_law_1288 : decode cL_law 1288 = .ok (.invokevirtual 184, 3) := by decide +kernel
theorem dL_law_1291 : decode cL_law 1291 = .ok (.if_icmp .eq 299, 3) := by decide +kernel
theorem dL_law_1294 : decode cL_law 1294 = .ok (.iconst 0, 1) := by decide +kernel
theorem dL_law_1295 : decode cL_law 1295 = .ok (.ireturn, 1) := by decide +kernel
theorem dL_law_1296 : decode cL_law 1296 = .ok (.aload_n 1, 1) := by decide +kernel
theorem dL_law_1297 : decode cL_law 1297 = .ok (.aload_n 0, 1) := by decide +kernel
theorem dL_law_1298 : decode cL_law 1298 = .ok (.iload 4, 2) := by decide +kernel
theorem dL_law_1300 : decode cL_law 1300 = .ok (.iconst 1, 1) := by decide +kernel
theorem dL_law_1301 : decode cL_law 1301 = .ok (.iadd, 1) := by decide +kernel
theorem dL_law_1302 : decode cL_law 1302 = .ok (.iaload, 1) := by decide +kernel
theorem dL_law_1303 : decode cL_law 1303 = .ok (.invokevirtual 185, 3) := by decide +kernel
theorem dL_law_1306 : decode cL_law 1306 = .ok (.aload_n 2, 1) := by decide +kernel
theorem dL_law_1307 : decode cL_law 1307 = .ok (.aload_n 0, 1) := by decide +kernel
theorem dL_law_1308 : decode cL_law 1308 = .ok (.iload 4, 2) := by decide +kernel
theorem dL_law_1310 : decode cL_law 1310 = .ok (.iconst 1, 1) := by decide +kernel
theorem dL_law_1311 : decode cL_law 1311 = .ok (.iadd, 1) := by decide +kernel
theorem dL_law_1312 : decode cL_law 1312 = .ok (.iaload, 1) := by decide +kernel
theorem dL_law_1313 : decode cL_law 1313 = .ok (.invokevirtual 188, 3) := by decide +kernel
theorem dL_law_1316 : decode cL_law 1316 = .ok (.if_icmp .eq 274, 3) := by decide +kernel
theorem dL_law_1319 : decode cL_law 1319 = .ok (.iconst 0, 1) := by decide +kernel
theorem dL_law_1320 : decode cL_law 1320 = .ok (.ireturn, 1) := by decide +kernel
theorem dL_law_1321 : decode cL_law 1321 = .ok (.aload_n 1, 1) := by decide +kernel
theorem dL_law_1322 : decode cL_law 1322 = .ok (.aload_n 0, 1) := by decide +kernel
theorem dL_law_1323 : decode cL_law 1323 = .ok (.iload 4, 2) := by decide +kernel
theorem dL_law_1325 : decode cL_law 1325 = .ok (.iconst 1, 1) := by decide +kernel
theorem dL_law_1326 : decode cL_law 1326 = .ok (.iadd, 1) := by decide +kernel
theorem dL_law_1327 : decode cL_law 1327 = .ok (.iaload, 1) := by decide +kernel
theorem dL_law_1328 : decode cL_law 1328 = .ok (.aload_n 0, 1) := by decide +kernel
theorem dL_law_1329 : decode cL_law 1329 = .ok (.iload 4, 2) := by decide +kernel
theorem dL_law_1331 : decode cL_law 1331 = .ok (.iconst 2, 1) := by decide +kernel
theorem dL_law_1332 : decode cL_law 1332 = .ok (.iadd, 1) := by decide +kernel
theorem dL_law_1333 : decode cL_law 1333 = .ok (.iaload, 1) := by decide +kernel
theorem dL_law_1334 : decode cL_law 1334 = .ok (.invokevirtual 189, 3) := by decide +kernel
theorem dL_law_1337 : decode cL_law 1337 = .ok (.aload_n 2, 1) := by decide +kernel
theorem dL_law_1338 : decode cL_law 1338 = .ok (.aload_n 0, 1) := by decide +kernel
theorem dL_law_1339 : decode cL_law 1339 = .ok (.iload 4, 2) := by decide +kernel
theorem dL_law_1341 : decode cL_law 1341 = .ok (.iconst 1, 1) := by decide +kernel
theorem dL_law_1342 : decode cL_law 1342 = .ok (.iadd, 1) := by decide +kernel
theorem dL_law_1343 : decode cL_law 1343 = .ok (.iaload, 1) := by decide +kernel
theorem dL_law_1344 : decode cL_law 1344 = .ok (.aload_n 0, 1) := by decide +kernel
theorem dL_law_1345 : decode cL_law 1345 = .ok (.iload 4, 2) := by decide +kernel
theorem dL_law_1347 : decode cL_law 1347 = .ok (.iconst 2, 1) := by decide +kernel
theorem dL_law_1348 : decode cL_law 1348 = .ok (.iadd, 1) := by decide +kernel
theorem dL_law_1349 : decode cL_law 1349 = .ok (.iaload, 1) := by decide +kernel
theorem dL_law_1350 : decode cL_law 1350 = .ok (.invokevirtual 192, 3) := by decide +kernel
theorem dL_law_1353 : decode cL_law 1353 = .ok (.if_icmp .eq 237, 3) := by decide +kernel
theorem dL_law_1356 : decode cL_law 1356 = .ok (.iconst 0, 1) := by decide +kernel
theorem dL_law_1357 : decode cL_law 1357 = .ok (.ireturn, 1) := by decide +kernel
theorem dL_law_1358 : decode cL_law 1358 = .ok (.aload_n 1, 1) := by decide +kernel
theorem dL_law_1359 : decode cL_law 1359 = .ok (.aload_n 0, 1) := by decide +kernel
theorem dL_law_1360 : decode cL_law 1360 = .ok (.iload 4, 2) := by decide +kernel
theorem dL_law_1362 : decode cL_law 1362 = .ok (.iconst 1, 1) := by decide +kernel
theorem dL_law_1363 : decode cL_law 1363 = .ok (.iadd, 1) := by decide +kernel
theorem dL_law_1364 : decode cL_law 1364 = .ok (.iaload, 1) := by decide +kernel
theorem dL_law_1365 : decode cL_law 1365 = .ok (.invokevirtual 193, 3) := by decide +kernel
theorem dL_law_1368 : decode cL_law 1368 = .ok (.aload_n 2, 1) := by decide +kernel
theorem dL_law_1369 : decode cL_law 1369 = .ok (.aload_n 0, 1) := by decide +kernel
theorem dL_law_1370 : decode cL_law 1370 = .ok (.iload 4, 2) := by decide +kernel
theorem dL_law_1372 : decode cL_law 1372 = .ok (.iconst 1, 1) := by decide +kernel
theorem dL_law_1373 : decode cL_law 1373 = .ok (.iadd, 1) := by decide +kernel
theorem dL_law_1374 : decode cL_law 1374 = .ok (.iaload, 1) := by decide +kernel
theorem dL_law_1375 : decode cL_law 1375 = .ok (.invokevirtual 196, 3) := by decide +kernel
theorem dL_law_1378 : decode cL_law 1378 = .ok (.if_icmp .eq 212, 3) := by decide +kernel
theorem dL_law_1381 : decode cL_law 1381 = .ok (.iconst 0, 1) := by decide +kernel
theorem dL_law_1382 : decode cL_law 1382 = .ok (.ireturn, 1) := by decide +kernel
theorem dL_law_1383 : decode cL_law 1383 = .ok (.aload_n 1, 1) := by decide +kernel
theorem dL_law_1384 : decode cL_law 1384 = .ok (.invokevirtual 197, 3) := by decide +kernel
theorem dL_law_1387 : decode cL_law 1387 = .ok (.aload_n 2, 1) := by decide +kernel
theorem dL_law_1388 : decode cL_law 1388 = .ok (.invokevirtual 201, 3) := by decide +kernel
theorem dL_law_1391 : decode cL_law 1391 = .ok (.if_icmp .eq 199, 3) := by decide +kernel
theorem dL_law_1394 : decode cL_law 1394 = .ok (.iconst 0, 1) := by decide +kernel
theorem dL_law_1395 : decode cL_law 1395 = .ok (.ireturn, 1) := by decide +kernel
theorem dL_law_1396 : decode cL_law 1396 = .ok (.aload_n 1, 1) := by decide +kernel
theorem dL_law_1397 : decode cL_law 1397 = .ok (.invokevirtual 202, 3) := by decide +kernel
theorem dL_law_1400 : decode cL_law 1400 = .ok (.aload_n 2, 1) := by decide +kernel
theorem dL_law_1401 : decode cL_law 1401 = .ok (.invokevirtual 205, 3) := by decide +kernel
theorem dL_law_1404 : decode cL_law 1404 = .ok (.if_icmp .eq 186, 3) := by decide +kernel
theorem dL_law_1407 : decode cL_law 1407 = .ok (.iconst 0, 1) := by decide +kernel
theorem dL_law_1408 : decode cL_law 1408 = .ok (.ireturn, 1) := by decide +kernel
theorem dL_law_1409 : decode cL_law 1409 = .ok (.aload_n 1, 1) := by decide +kernel
theorem dL_law_1410 : decode cL_law 1410 = .ok (.aload_n 0, 1) := by decide +kernel
theorem dL_law_1411 : decode cL_law 1411 = .ok (.iload 4, 2) := by decide +kernel
theorem dL_law_1413 : decode cL_law 1413 = .ok (.iconst 1, 1) := by decide +kernel
theorem dL_law_1414 : decode cL_law 1414 = .ok (.iadd, 1) := by decide +kernel
theorem dL_law_1415 : decode cL_law 1415 = .ok (.iaload, 1) := by decide +kernel
theorem dL_law_1416 : decode cL_law 1416 = .ok (.invokevirtual 206, 3) := by decide +kernel
theorem dL_law_1419 : decode cL_law 1419 = .ok (.aload_n 2, 1) := by decide +kernel
theorem dL_law_1420 : decode cL_law 1420 = .ok (.aload_n 0, 1) := by decide +kernel
theorem dL_law_1421 : decode cL_law 1421 = .ok (.iload 4, 2) := by decide +kernel
theorem dL_law_1423 : decode cL_law 1423 = .ok (.iconst 1, 1) := by decide +kernel
theorem dL_law_1424 : decode cL_law 1424 = .ok (.iadd, 1) := by decide +kernel
theorem dL_law_1425 : decode cL_law 1425 = .ok (.iaload, 1) := by decide +kernel
theorem dL_law_1426 : decode cL_law 1426 = .ok (.invokevirtual 209, 3) := by decide +kernel
theorem dL_law_1429 : decode cL_law 1429 = .ok (.if_icmp .eq 161, 3) := by decide +kernel
theorem dL_law_1432 : decode cL_law 1432 = .ok (.iconst 0, 1) := by decide +kernel
theorem dL_law_1433 : decode cL_law 1433 = .ok (.ireturn, 1) := by decide +kernel
theorem dL_law_1434 : decode cL_law 1434 = .ok (.aload_n 1, 1) := by decide +kernel
theorem dL_law_1435 : decode cL_law 1435 = .ok (.aload_n 0, 1) := by decide +kernel
theorem dL_law_1436 : decode cL_law 1436 = .ok (.iload 4, 2) := by decide +kernel
theorem dL_law_1438 : decode cL_law 1438 = .ok (.iconst 1, 1) := by decide +kernel
theorem dL_law_1439 : decode cL_law 1439 = .ok (.iadd, 1) := by decide +kernel
theorem dL_law_1440 : decode cL_law 1440 = .ok (.iaload, 1) := by decide +kernel
theorem dL_law_1441 : decode cL_law 1441 = .ok (.aload_n 0, 1) := by decide +kernel
theorem dL_law_1442 : decode cL_law 1442 = .ok (.iload 4, 2) := by decide +kernel
theorem dL_law_1444 : decode cL_law 1444 = .ok (.iconst 2, 1) := by decide +kernel
theorem dL_law_1445 : decode cL_law 1445 = .ok (.iadd, 1) := by decide +kernel
theorem dL_law_1446 : decode cL_law 1446 = .ok (.iaload, 1) := by decide +kernel
theorem dL_law_1447 : decode cL_law 1447 = .ok (.invokevirtual 210, 3) := by decide +kernel
theorem dL_law_1450 : decode cL_law 1450 = .ok (.aload_n 2, 1) := by decide +kernel
theorem dL_law_1451 : decode cL_law 1451 = .ok (.aload_n 0, 1) := by decide +kernel
theorem dL_law_1452 : decode cL_law 1452 = .ok (.iload 4, 2) := by decide +kernel
theorem dL_law_1454 : decode cL_law 1454 = .ok (.iconst 1, 1) := by decide +kernel
theorem dL_law_1455 : decode cL_law 1455 = .ok (.iadd, 1) := by decide +kernel
theorem dL_law_1456 : decode cL_law 1456 = .ok (.iaload, 1) := by decide +kernel
theorem dL_law_1457 : decode cL_law 1457 = .ok (.aload_n 0, 1) := by decide +kernel
theorem dL_law_1458 : decode cL_law 1458 = .ok (.iload 4, 2) := by decide +kernel
theorem dL_law_1460 : decode cL_law 1460 = .ok (.iconst 2, 1) := by decide +kernel
theorem dL_law_1461 : decode cL_law 1461 = .ok (.iadd, 1) := by decide +kernel
theorem dL_law_1462 : decode cL_law 1462 = .ok (.iaload, 1) := by decide +kernel
theorem dL_law_1463 : decode cL_law 1463 = .ok (.invokevirtual 213, 3) := by decide +kernel
theorem dL_law_1466 : decode cL_law 1466 = .ok (.if_icmp .eq 124, 3) := by decide +kernel
theorem dL_law_1469 : decode cL_law 1469 = .ok (.iconst 0, 1) := by decide +kernel
theorem dL_law_1470 : decode cL_law 1470 = .ok (.ireturn, 1) := by decide +kernel
theorem dL_law_1471 : decode cL_law 1471 = .ok (.aload_n 1, 1) := by decide +kernel
theorem dL_law_1472 : decode cL_law 1472 = .ok (.aload_n 0, 1) := by decide +kernel
theorem dL_law_1473 : decode cL_law 1473 = .ok (.iload 4, 2) := by decide +kernel
theorem dL_law_1475 : decode cL_law 1475 = .ok (.iconst 1, 1) := by decide +kernel
theorem dL_law_1476 : decode cL_law 1476 = .ok (.iadd, 1) := by decide +kernel
theorem dL_law_1477 : decode cL_law 1477 = .ok (.iaload, 1) := by decide +kernel
theorem dL_law_1478 : decode cL_law 1478 = .ok (.invokevirtual 214, 3) := by decide +kernel
theorem dL_law_1481 : decode cL_law 1481 = .ok (.aload_n 2, 1) := by decide +kernel
theorem dL_law_1482 : decode cL_law 1482 = .ok (.aload_n 0, 1) := by decide +kernel
theorem dL_law_1483 : decode cL_law 1483 = .ok (.iload 4, 2) := by decide +kernel
theorem dL_law_1485 : decode cL_law 1485 = .ok (.iconst 1, 1) := by decide +kernel
theorem dL_law_1486 : decode cL_law 1486 = .ok (.iadd, 1) := by decide +kernel
theorem dL_law_1487 : decode cL_law 1487 = .ok (.iaload, 1) := by decide +kernel
theorem dL_law_1488 : decode cL_law 1488 = .ok (.invokevirtual 217, 3) := by decide +kernel
theorem dL_law_1491 : decode cL_law 1491 = .ok (.if_icmp .eq 99, 3) := by decide +kernel
theorem dL_law_1494 : decode cL_law 1494 = .ok (.iconst 0, 1) := by decide +kernel
theorem dL_law_1495 : decode cL_law 1495 = .ok (.ireturn, 1) := by decide +kernel
theorem dL_law_1496 : decode cL_law 1496 = .ok (.aload_n 1, 1) := by decide +kernel
theorem dL_law_1497 : decode cL_law 1497 = .ok (.aload_n 0, 1) := by decide +kernel
theorem dL_law_1498 : decode cL_law 1498 = .ok (.iload 4, 2) := by decide +kernel
theorem dL_law_1500 : decode cL_law 1500 = .ok (.iconst 1, 1) := by decide +kernel
theorem dL_law_1501 : decode cL_law 1501 = .ok (.iadd, 1) := by decide +kernel
theorem dL_law_1502 : decode cL_law 1502 = .ok (.iaload, 1) := by decide +kernel
theorem dL_law_1503 : decode cL_law 1503 = .ok (.aload_n 3, 1) := by decide +kernel
theorem dL_law_1504 : decode cL_law 1504 = .ok (.invokestatic 218, 3) := by decide +kernel
theorem dL_law_1507 : decode cL_law 1507 = .ok (.istore 5, 2) := by decide +kernel
theorem dL_law_1509 : decode cL_law 1509 = .ok (.aload_n 2, 1) := by decide +kernel
theorem dL_law_1510 : decode cL_law 1510 = .ok (.aload_n 0, 1) := by decide +kernel
theorem dL_law_1511 : decode cL_law 1511 = .ok (.iload 4, 2) := by decide +kernel
theorem dL_law_1513 : decode cL_law 1513 = .ok (.iconst 1, 1) := by decide +kernel
theorem dL_law_1514 : decode cL_law 1514 = .ok (.iadd, 1) := by decide +kernel
theorem dL_law_1515 : decode cL_law 1515 = .ok (.iaload, 1) := by decide +kernel
theorem dL_law_1516 : decode cL_law 1516 = .ok (.invokevirtual 223, 3) := by decide +kernel
theorem dL_law_1519 : decode cL_law 1519 = .ok (.istore 6, 2) := by decide +kernel
theorem dL_law_1521 : decode cL_law 1521 = .ok (.aload_n 2, 1) := by decide +kernel
theorem dL_law_1522 : decode cL_law 1522 = .ok (.invokevirtual 224, 3) := by decide +kernel
theorem dL_law_1525 : decode cL_law 1525 = .ok (.iload 5, 2) := by decide +kernel
theorem dL_law_1527 : decode cL_law 1527 = .ok (.if_icmp .eq 5, 3) := by decide +kernel
theorem dL_law_1530 : decode cL_law 1530 = .ok (.iconst 0, 1) := by decide +kernel
theorem dL_law_1531 : decode cL_law 1531 = .ok (.ireturn, 1) := by decide +kernel
theorem dL_law_1532 : decode cL_law 1532 = .ok (.iload 5, 2) := by decide +kernel
theorem dL_law_1534 : decode cL_law 1534 = .ok (.ifCond .ne 15, 3) := by decide +kernel
theorem dL_law_1537 : decode cL_law 1537 = .ok (.aload_n 3, 1) := by decide +kernel
theorem dL_law_1538 : decode cL_law 1538 = .ok (.iconst 0, 1) := by decide +kernel
theorem dL_law_1539 : decode cL_law 1539 = .ok (.laload, 1) := by decide +kernel
theorem dL_law_1540 : decode cL_law 1540 = .ok (.iload 6, 2) := by decide +kernel
theorem dL_law_1542 : decode cL_law 1542 = .ok (.i2l, 1) := by decide +kernel
theorem dL_law_1543 : decode cL_law 1543 = .ok (.lcmp, 1) := by decide +kernel
theorem dL_law_1544 : decode cL_law 1544 = .ok (.ifCond .eq 5, 3) := by decide +kernel
theorem dL_law_1547 : decode cL_law 1547 = .ok (.iconst 0, 1) := by decide +kernel
theorem dL_law_1548 : decode cL_law 1548 = .ok (.ireturn, 1) := by decide +kernel
theorem dL_law_1549 : decode cL_law 1549 = .ok (.goto 41, 3) := by decide +kernel
theorem dL_law_1552 : decode cL_law 1552 = .ok (.aload_n 1, 1) := by decide +kernel
theorem dL_law_1553 : decode cL_law 1553 = .ok (.aload_n 0, 1) := by decide +kernel
theorem dL_law_1554 : decode cL_law 1554 = .ok (.iload 4, 2) := by decide +kernel
theorem dL_law_1556 : decode cL_law 1556 = .ok (.iconst 1, 1) := by decide +kernel
theorem dL_law_1557 : decode cL_law 1557 = .ok (.iadd, 1) := by decide +kernel
theorem dL_law_1558 : decode cL_law 1558 = .ok (.iaload, 1) := by decide +kernel
theorem dL_law_1559 : decode cL_law 1559 = .ok (.invokevirtual 227, 3) := by decide +kernel
theorem dL_law_1562 : decode cL_law 1562 = .ok (.aload_n 2, 1) := by decide +kernel
theorem dL_law_1563 : decode cL_law 1563 = .ok (.aload_n 0, 1) := by decide +kernel
theorem dL_law_1564 : decode cL_law 1564 = .ok (.iload 4, 2) := by decide +kernel
theorem dL_law_1566 : decode cL_law 1566 = .ok (.iconst 1, 1) := by decide +kernel
theorem dL_law_1567 : decode cL_law 1567 = .ok (.iadd, 1) := by decide +kernel
theorem dL_law_1568 : decode cL_law 1568 = .ok (.iaload, 1) := by decide +kernel
theorem dL_law_1569 : decode cL_law 1569 = .ok (.invokevirtual 230, 3) := by decide +kernel
theorem dL_law_1572 : decode cL_law 1572 = .ok (.if_icmp .eq 18, 3) := by decide +kernel
theorem dL_law_1575 : decode cL_law 1575 = .ok (.iconst 0, 1) := by decide +kernel
theorem dL_law_1576 : decode cL_law 1576 = .ok (.ireturn, 1) := by decide +kernel
theorem dL_law_1577 : decode cL_law 1577 = .ok (.aload_n 1, 1) := by decide +kernel
theorem dL_law_1578 : decode cL_law 1578 = .ok (.invokevirtual 231, 3) := by decide +kernel
theorem dL_law_1581 : decode cL_law 1581 = .ok (.aload_n 2, 1) := by decide +kernel
theorem dL_law_1582 : decode cL_law 1582 = .ok (.invokevirtual 234, 3) := by decide +kernel
theorem dL_law_1585 : decode cL_law 1585 = .ok (.if_icmp .eq 5, 3) := by decide +kernel
theorem dL_law_1588 : decode cL_law 1588 = .ok (.iconst 0, 1) := by decide +kernel
theorem dL_law_1589 : decode cL_law 1589 = .ok (.ireturn, 1) := by decide +kernel
theorem dL_law_1590 : decode cL_law 1590 = .ok (.iinc 4 6, 3) := by decide +kernel
theorem dL_law_1593 : decode cL_law 1593 = .ok (.goto (-1570), 3) := by decide +kernel
theorem dL_law_1596 : decode cL_law 1596 = .ok (.iconst 1, 1) := by decide +kernel
theorem dL_law_1597 : decode cL_law 1597 = .ok (.ireturn, 1) := by decide +kernel
