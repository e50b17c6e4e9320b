theorem dX0_init_0 : decode cX0_init 0 = .ok (.aload_n 0, 1) := by decide +kernel
theorem dX0_init_1 : decode cX0_init 1 = .ok (.invokespecial 3, 3) := by decide +kernel
theorem dX0_init_4 : decode cX0_init 4 = .ok (.aload_n 0, 1) := by decide +kernel
theorem dX0_init_5 : decode cX0_init 5 = .ok (.new 9, 3) := by decide +kernel
theorem dX0_init_8 : decode cX0_init 8 = .ok (.dup, 1) := by decide +kernel
theorem dX0_init_9 : decode cX0_init 9 = .ok (.invokespecial 11, 3) := by decide +kernel
theorem dX0_init_12 : decode cX0_init 12 = .ok (.putfield 12, 3) := by decide +kernel
theorem dX0_init_15 : decode cX0_init 15 = .ok (.aload_n 0, 1) := by decide +kernel
theorem dX0_init_16 : decode cX0_init 16 = .ok (.new 18, 3) := by decide +kernel
theorem dX0_init_19 : decode cX0_init 19 = .ok (.dup, 1) := by decide +kernel
theorem dX0_init_20 : decode cX0_init 20 = .ok (.bipush 44, 2) := by decide +kernel
theorem dX0_init_22 : decode cX0_init 22 = .ok (.iconst 1, 1) := by decide +kernel
theorem dX0_init_23 : decode cX0_init 23 = .ok (.invokespecial 20, 3) := by decide +kernel
theorem dX0_init_26 : decode cX0_init 26 = .ok (.putfield 23, 3) := by decide +kernel
theorem dX0_init_29 : decode cX0_init 29 = .ok (.aload_n 0, 1) := by decide +kernel
theorem dX0_init_30 : decode cX0_init 30 = .ok (.new 18, 3) := by decide +kernel
theorem dX0_init_33 : decode cX0_init 33 = .ok (.dup, 1) := by decide +kernel
theorem dX0_init_34 : decode cX0_init 34 = .ok (.bipush 44, 2) := by decide +kernel
theorem dX0_init_36 : decode cX0_init 36 = .ok (.iconst 1, 1) := by decide +kernel
theorem dX0_init_37 : decode cX0_init 37 = .ok (.invokespecial 20, 3) := by decide +kernel
theorem dX0_init_40 : decode cX0_init 40 = .ok (.putfield 27, 3) := by decide +kernel
theorem dX0_init_43 : decode cX0_init 43 = .ok (.aload_n 0, 1) := by decide +kernel
theorem dX0_init_44 : decode cX0_init 44 = .ok (.new 18, 3) := by decide +kernel
theorem dX0_init_47 : decode cX0_init 47 = .ok (.dup, 1) := by decide +kernel
theorem dX0_init_48 : decode cX0_init 48 = .ok (.bipush 12, 2) := by decide +kernel
theorem dX0_init_50 : decode cX0_init 50 = .ok (.iconst 1, 1) := by decide +kernel
theorem dX0_init_51 : decode cX0_init 51 = .ok (.invokespecial 20, 3) := by decide +kernel
theorem dX0_init_54 : decode cX0_init 54 = .ok (.putfield 30, 3) := by decide +kernel
theorem dX0_init_57 : decode cX0_init 57 = .ok (.aload_n 0, 1) := by decide +kernel
theorem dX0_init_58 : decode cX0_init 58 = .ok (.new 18, 3) := by decide +kernel
theorem dX0_init_61 : decode cX0_init 61 = .ok (.dup, 1) := by decide +kernel
theorem dX0_init_62 : decode cX0_init 62 = .ok (.bipush 48, 2) := by decide +kernel
theorem dX0_init_64 : decode cX0_init 64 = .ok (.iconst 1, 1) := by decide +kernel
theorem dX0_init_65 : decode cX0_init 65 = .ok (.invokespecial 20, 3) := by decide +kernel
theorem dX0_init_68 : decode cX0_init 68 = .ok (.putfield 35, 3) := by decide +kernel
theorem dX0_init_71 : decode cX0_init 71 = .ok (.aload_n 0, 1) := by decide +kernel
theorem dX0_init_72 : decode cX0_init 72 = .ok (.new 18, 3) := by decide +kernel
theorem dX0_init_75 : decode cX0_init 75 = .ok (.dup, 1) := by decide +kernel
theorem dX0_init_76 : decode cX0_init 76 = .ok (.iconst 4, 1) := by decide +kernel
theorem dX0_init_77 : decode cX0_init 77 = .ok (.iconst 1, 1) := by decide +kernel
theorem dX0_init_78 : decode cX0_init 78 = .ok (.invokespecial 20, 3) := by decide +kernel
theorem dX0_init_81 : decode cX0_init 81 = .ok (.putfield 38, 3) := by decide +kernel
theorem dX0_init_84 : decode cX0_init 84 = .ok (.aload_n 0, 1) := by decide +kernel
theorem dX0_init_85 : decode cX0_init 85 = .ok (.aload_n 1, 1) := by decide +kernel
theorem dX0_init_86 : decode cX0_init 86 = .ok (.putfield 41, 3) := by decide +kernel
theorem dX0_init_89 : decode cX0_init 89 = .ok (.return_, 1) := by decide +kernel
theorem dX0_begin_0 : decode cX0_begin 0 = .ok (.aload_n 0, 1) := by decide +kernel
theorem dX0_begin_1 : decode cX0_begin 1 = .ok (.getfield 12, 3) := by decide +kernel
theorem dX0_begin_4 : decode cX0_begin 4 = .ok (.aload_n 1, 1) := by decide +kernel
theorem dX0_begin_5 : decode cX0_begin 5 = .ok (.invokevirtual 45, 3) := by decide +kernel
theorem dX0_begin_8 : decode cX0_begin 8 = .ok (.aload_n 0, 1) := by decide +kernel
theorem dX0_begin_9 : decode cX0_begin 9 = .ok (.getfield 23, 3) := by decide +kernel
theorem dX0_begin_12 : decode cX0_begin 12 = .ok (.bipush 44, 2) := by decide +kernel
theorem dX0_begin_14 : decode cX0_begin 14 = .ok (.iconst 0, 1) := by decide +kernel
theorem dX0_begin_15 : decode cX0_begin 15 = .ok (.invokevirtual 49, 3) := by decide +kernel
theorem dX0_begin_18 : decode cX0_begin 18 = .ok (.aload_n 0, 1) := by decide +kernel
theorem dX0_begin_19 : decode cX0_begin 19 = .ok (.getfield 30, 3) := by decide +kernel
theorem dX0_begin_22 : decode cX0_begin 22 = .ok (.aload_n 0, 1) := by decide +kernel
theorem dX0_begin_23 : decode cX0_begin 23 = .ok (.getfield 41, 3) := by decide +kernel
theorem dX0_begin_26 : decode cX0_begin 26 = .ok (.getfield 52, 3) := by decide +kernel
theorem dX0_begin_29 : decode cX0_begin 29 = .ok (.invokevirtual 53, 3) := by decide +kernel
theorem dX0_begin_32 : decode cX0_begin 32 = .ok (.aload_n 0, 1) := by decide +kernel
theorem dX0_begin_33 : decode cX0_begin 33 = .ok (.iconst (-1), 1) := by decide +kernel
theorem dX0_begin_34 : decode cX0_begin 34 = .ok (.putfield 56, 3) := by decide +kernel
theorem dX0_begin_37 : decode cX0_begin 37 = .ok (.aload_n 0, 1) := by decide +kernel
theorem dX0_begin_38 : decode cX0_begin 38 = .ok (.iconst 0, 1) := by decide +kernel
theorem dX0_begin_39 : decode cX0_begin 39 = .ok (.putfield 60, 3) := by decide +kernel
theorem dX0_begin_42 : decode cX0_begin 42 = .ok (.aload_n 0, 1) := by decide +kernel
theorem dX0_begin_43 : decode cX0_begin 43 = .ok (.iconst 0, 1) := by decide +kernel
theorem dX0_begin_44 : decode cX0_begin 44 = .ok (.putfield 63, 3) := by decide +kernel
theorem dX0_begin_47 : decode cX0_begin 47 = .ok (.aload_n 0, 1) := by decide +kernel
theorem dX0_begin_48 : decode cX0_begin 48 = .ok (.bipush (-2), 2) := by decide +kernel
theorem dX0_begin_50 : decode cX0_begin 50 = .ok (.putfield 66, 3) := by decide +kernel
theorem dX0_begin_53 : decode cX0_begin 53 = .ok (.aload_n 0, 1) := by decide +kernel
theorem dX0_begin_54 : decode cX0_begin 54 = .ok (.iconst (-1), 1) := by decide +kernel
theorem dX0_begin_55 : decode cX0_begin 55 = .ok (.putfield 69, 3) := by decide +kernel
theorem dX0_begin_58 : decode cX0_begin 58 = .ok (.aload_n 0, 1) := by decide +kernel
theorem dX0_begin_59 : decode cX0_begin 59 = .ok (.iconst 0, 1) := by decide +kernel
theorem dX0_begin_60 : decode cX0_begin 60 = .ok (.putfield 72, 3) := by decide +kernel
theorem dX0_begin_63 : decode cX0_begin 63 = .ok (.aload_n 0, 1) := by decide +kernel
theorem dX0_begin_64 : decode cX0_begin 64 = .ok (.iconst 0, 1) := by decide +kernel
theorem dX0_begin_65 : decode cX0_begin 65 = .ok (.putfield 75, 3) := by decide +kernel
theorem dX0_begin_68 : decode cX0_begin 68 = .ok (.aload_n 0, 1) := by decide +kernel
theorem dX0_begin_69 : decode cX0_begin 69 = .ok (.bipush (-2), 2) := by decide +kernel
theorem dX0_begin_71 : decode cX0_begin 71 = .ok (.putfield 78, 3) := by decide +kernel
theorem dX0_begin_74 : decode cX0_begin 74 = .ok (.return_, 1) := by decide +kernel
theorem dX0_run_0 : decode cX0_run 0 = .ok (.iconst 0, 1) := by decide +kernel
theorem dX0_run_1 : decode cX0_run 1 = .ok (.istore_n 2, 1) := by decide +kernel
theorem dX0_run_2 : decode cX0_run 2 = .ok (.iload_n 2, 1) := by decide +kernel
theorem dX0_run_3 : decode cX0_run 3 = .ok (.iload_n 1, 1) := by decide +kernel
theorem dX0_run_4 : decode cX0_run 4 = .ok (.if_icmp .ge 117, 3) := by decide +kernel
theorem dX0_run_7 : decode cX0_run 7 = .ok (.aload_n 0, 1) := by decide +kernel
theorem dX0_run_8 : decode cX0_run 8 = .ok (.dup, 1) := by decide +kernel
theorem dX0_run_9 : decode cX0_run 9 = .ok (.getfield 63, 3) := by decide +kernel
theorem dX0_run_12 : decode cX0_run 12 = .ok (.iconst 1, 1) := by decide +kernel
theorem dX0_run_13 : decode cX0_run 13 = .ok (.iadd, 1) := by decide +kernel
theorem dX0_run_14 : decode cX0_run 14 = .ok (.putfield 63, 3) := by decide +kernel
theorem dX0_run_17 : decode cX0_run 17 = .ok (.aload_n 0, 1) := by decide +kernel
theorem dX0_run_18 : decode cX0_run 18 = .ok (.getfield 12, 3) := by decide +kernel
theorem dX0_run_21 : decode cX0_run 21 = .ok (.getfield 81, 3) := by decide +kernel
theorem dX0_run_24 : decode cX0_run 24 = .ok (.ifCond .eq 6, 3) := by decide +kernel
theorem dX0_run_27 : decode cX0_run 27 = .ok (.goto 88, 3) := by decide +kernel
theorem dX0_run_30 : decode cX0_run 30 = .ok (.aload_n 0, 1) := by decide +kernel
theorem dX0_run_31 : decode cX0_run 31 = .ok (.invokevirtual 84, 3) := by decide +kernel
theorem dX0_run_34 : decode cX0_run 34 = .ok (.istore_n 3, 1) := by decide +kernel
theorem dX0_run_35 : decode cX0_run 35 = .ok (.aload_n 0, 1) := by decide +kernel
theorem dX0_run_36 : decode cX0_run 36 = .ok (.getfield 12, 3) := by decide +kernel
theorem dX0_run_39 : decode cX0_run 39 = .ok (.dup, 1) := by decide +kernel
theorem dX0_run_40 : decode cX0_run 40 = .ok (.getfield 88, 3) := by decide +kernel
theorem dX0_run_43 : decode cX0_run 43 = .ok (.iconst 1, 1) := by decide +kernel
theorem dX0_run_44 : decode cX0_run 44 = .ok (.iadd, 1) := by decide +kernel
theorem dX0_run_45 : decode cX0_run 45 = .ok (.putfield 88, 3) := by decide +kernel
theorem dX0_run_48 : decode cX0_run 48 = .ok (.aload_n 0, 1) := by decide +kernel
theorem dX0_run_49 : decode cX0_run 49 = .ok (.iload_n 3, 1) := by decide +kernel
theorem dX0_run_50 : decode cX0_run 50 = .ok (.invokevirtual 91, 3) := by decide +kernel
theorem dX0_run_53 : decode cX0_run 53 = .ok (.ifCond .eq 22, 3) := by decide +kernel
theorem dX0_run_56 : decode cX0_run 56 = .ok (.aload_n 0, 1) := by decide +kernel
theorem dX0_run_57 : decode cX0_run 57 = .ok (.getfield 12, 3) := by decide +kernel
theorem dX0_run_60 : decode cX0_run 60 = .ok (.iconst 1, 1) := by decide +kernel
theorem dX0_run_61 : decode cX0_run 61 = .ok (.putfield 81, 3) := by decide +kernel
theorem dX0_run_64 : decode cX0_run 64 = .ok (.aload_n 0, 1) := by decide +kernel
theorem dX0_run_65 : decode cX0_run 65 = .ok (.aload_n 0, 1) := by decide +kernel
theorem dX0_run_66 : decode cX0_run 66 = .ok (.getfield 63, 3) := by decide +kernel
theorem dX0_run_69 : decode cX0_run 69 = .ok (.putfield 78, 3) := by decide +kernel
theorem dX0_run_72 : decode cX0_run 72 = .ok (.goto 43, 3) := by decide +kernel
theorem dX0_run_75 : decode cX0_run 75 = .ok (.aload_n 0, 1) := by decide +kernel
theorem dX0_run_76 : decode cX0_run 76 = .ok (.invokevirtual 95, 3) := by decide +kernel
theorem dX0_run_79 : decode cX0_run 79 = .ok (.aload_n 0, 1) := by decide +kernel
theorem dX0_run_80 : decode cX0_run 80 = .ok (.invokevirtual 98, 3) := by decide +kernel
theorem dX0_run_83 : decode cX0_run 83 = .ok (.aload_n 0, 1) := by decide +kernel
theorem dX0_run_84 : decode cX0_run 84 = .ok (.invokevirtual 101, 3) := by decide +kernel
theorem dX0_run_87 : decode cX0_run 87 = .ok (.aload_n 0, 1) := by decide +kernel
theorem dX0_run_88 : decode cX0_run 88 = .ok (.invokevirtual 104, 3) := by decide +kernel
theorem dX0_run_91 : decode cX0_run 91 = .ok (.aload_n 0, 1) := by decide +kernel
theorem dX0_run_92 : decode cX0_run 92 = .ok (.getfield 12, 3) := by decide +kernel
theorem dX0_run_95 : decode cX0_run 95 = .ok (.getfield 107, 3) := by decide +kernel
theorem dX0_run_98 : decode cX0_run 98 = .ok (.invokevirtual 110, 3) := by decide +kernel
theorem dX0_run_101 : decode cX0_run 101 = .ok (.sipush 200, 3) := by decide +kernel
theorem dX0_run_104 : decode cX0_run 104 = .ok (.if_icmp .le 11, 3) := by decide +kernel
theorem dX0_run_107 : decode cX0_run 107 = .ok (.aload_n 0, 1) := by decide +kernel
theorem dX0_run_108 : decode cX0_run 108 = .ok (.getfield 12, 3) := by decide +kernel
theorem dX0_run_111 : decode cX0_run 111 = .ok (.iconst 2, 1) := by decide +kernel
theorem dX0_run_112 : decode cX0_run 112 = .ok (.putfield 81, 3) := by decide +kernel
theorem dX0_run_115 : decode cX0_run 115 = .ok (.iinc 2 1, 3) := by decide +kernel
theorem dX0_run_118 : decode cX0_run 118 = .ok (.goto (-116), 3) := by decide +kernel
theorem dX0_run_121 : decode cX0_run 121 = .ok (.return_, 1) := by decide +kernel
theorem dX0_beginPlan_0 : decode cX0_beginPlan 0 = .ok (.aload_n 0, 1) := by decide +kernel
theorem dX0_beginPlan_1 : decode cX0_beginPlan 1 = .ok (.aload_n 1, 1) := by decide +kernel
theorem dX0_beginPlan_2 : decode cX0_beginPlan 2 = .ok (.invokevirtual 113, 3) := by decide +kernel
theorem dX0_beginPlan_5 : decode cX0_beginPlan 5 = .ok (.aload_n 0, 1) := by decide +kernel
theorem dX0_beginPlan_6 : decode cX0_beginPlan 6 = .ok (.getfield 30, 3) := by decide +kernel
theorem dX0_beginPlan_9 : decode cX0_beginPlan 9 = .ok (.iconst 0, 1) := by decide +kernel
theorem dX0_beginPlan_10 : decode cX0_beginPlan 10 = .ok (.invokevirtual 116, 3) := by decide +kernel
theorem dX0_beginPlan_13 : decode cX0_beginPlan 13 = .ok (.iconst 0, 1) := by decide +kernel
theorem dX0_beginPlan_14 : decode cX0_beginPlan 14 = .ok (.istore 4, 2) := by decide +kernel
theorem dX0_beginPlan_16 : decode cX0_beginPlan 16 = .ok (.iload 4, 2) := by decide +kernel
theorem dX0_beginPlan_18 : decode cX0_beginPlan 18 = .ok (.iload_n 2, 1) := by decide +kernel
theorem dX0_beginPlan_19 : decode cX0_beginPlan 19 = .ok (.if_icmp .ge 24, 3) := by decide +kernel
theorem dX0_beginPlan_22 : decode cX0_beginPlan 22 = .ok (.aload_n 0, 1) := by decide +kernel
theorem dX0_beginPlan_23 : decode cX0_beginPlan 23 = .ok (.getfield 30, 3) := by decide +kernel
theorem dX0_beginPlan_26 : decode cX0_beginPlan 26 = .ok (.aload_n 0, 1) := by decide +kernel
theorem dX0_beginPlan_27 : decode cX0_beginPlan 27 = .ok (.iload_n 2, 1) := by decide +kernel
theorem dX0_beginPlan_28 : decode cX0_beginPlan 28 = .ok (.iload_n 3, 1) := by decide +kernel
theorem dX0_beginPlan_29 : decode cX0_beginPlan 29 = .ok (.iload 4, 2) := by decide +kernel
theorem dX0_beginPlan_31 : decode cX0_beginPlan 31 = .ok (.invokevirtual 120, 3) := by decide +kernel
theorem dX0_beginPlan_34 : decode cX0_beginPlan 34 = .ok (.invokevirtual 124, 3) := by decide +kernel
theorem dX0_beginPlan_37 : decode cX0_beginPlan 37 = .ok (.iinc 4 1, 3) := by decide +kernel
theorem dX0_beginPlan_40 : decode cX0_beginPlan 40 = .ok (.goto (-24), 3) := by decide +kernel
theorem dX0_beginPlan_43 : decode cX0_beginPlan 43 = .ok (.aload_n 0, 1) := by decide +kernel
theorem dX0_beginPlan_44 : decode cX0_beginPlan 44 = .ok (.getfield 12, 3) := by decide +kernel
theorem dX0_beginPlan_47 : decode cX0_beginPlan 47 = .ok (.iconst 5, 1) := by decide +kernel
theorem dX0_beginPlan_48 : decode cX0_beginPlan 48 = .ok (.putfield 127, 3) := by decide +kernel
theorem dX0_beginPlan_51 : decode cX0_beginPlan 51 = .ok (.aload_n 0, 1) := by decide +kernel
theorem dX0_beginPlan_52 : decode cX0_beginPlan 52 = .ok (.getfield 12, 3) := by decide +kernel
theorem dX0_beginPlan_55 : decode cX0_beginPlan 55 = .ok (.iconst 0, 1) := by decide +kernel
theorem dX0_beginPlan_56 : decode cX0_beginPlan 56 = .ok (.putfield 130, 3) := by decide +kernel
theorem dX0_beginPlan_59 : decode cX0_beginPlan 59 = .ok (.return_, 1) := by decide +kernel
theorem dX0_sideOf_0 : decode cX0_sideOf 0 = .ok (.iload_n 3, 1) := by decide +kernel
theorem dX0_sideOf_1 : decode cX0_sideOf 1 = .ok (.ifCond .lt 8, 3) := by decide +kernel
theorem dX0_sideOf_4 : decode cX0_sideOf 4 = .ok (.iload_n 3, 1) := by decide +kernel
theorem dX0_sideOf_5 : decode cX0_sideOf 5 = .ok (.iload_n 1, 1) := by decide +kernel
theorem dX0_sideOf_6 : decode cX0_sideOf 6 = .ok (.if_icmp .lt 7, 3) := by decide +kernel
theorem dX0_sideOf_9 : decode cX0_sideOf 9 = .ok (.iconst 0, 1) := by decide +kernel
theorem dX0_sideOf_10 : decode cX0_sideOf 10 = .ok (.goto 14, 3) := by decide +kernel
theorem dX0_sideOf_13 : decode cX0_sideOf 13 = .ok (.iload_n 2, 1) := by decide +kernel
theorem dX0_sideOf_14 : decode cX0_sideOf 14 = .ok (.iconst 2, 1) := by decide +kernel
theorem dX0_sideOf_15 : decode cX0_sideOf 15 = .ok (.iload_n 1, 1) := by decide +kernel
theorem dX0_sideOf_16 : decode cX0_sideOf 16 = .ok (.iconst 1, 1) := by decide +kernel
theorem dX0_sideOf_17 : decode cX0_sideOf 17 = .ok (.isub, 1) := by decide +kernel
theorem dX0_sideOf_18 : decode cX0_sideOf 18 = .ok (.iload_n 3, 1) := by decide +kernel
theorem dX0_sideOf_19 : decode cX0_sideOf 19 = .ok (.isub, 1) := by decide +kernel
theorem dX0_sideOf_20 : decode cX0_sideOf 20 = .ok (.imul, 1) := by decide +kernel
theorem dX0_sideOf_21 : decode cX0_sideOf 21 = .ok (.ishr, 1) := by decide +kernel
theorem dX0_sideOf_22 : decode cX0_sideOf 22 = .ok (.iconst 3, 1) := by decide +kernel
theorem dX0_sideOf_23 : decode cX0_sideOf 23 = .ok (.iand, 1) := by decide +kernel
theorem dX0_sideOf_24 : decode cX0_sideOf 24 = .ok (.ireturn, 1) := by decide +kernel
theorem dX0_joltFor_0 : decode cX0_joltFor 0 = .ok (.aload_n 0, 1) := by decide +kernel
theorem dX0_joltFor_1 : decode cX0_joltFor 1 = .ok (.aload_n 1, 1) := by decide +kernel
theorem dX0_joltFor_2 : decode cX0_joltFor 2 = .ok (.invokevirtual 113, 3) := by decide +kernel
theorem dX0_joltFor_5 : decode cX0_joltFor 5 = .ok (.aload_n 0, 1) := by decide +kernel
theorem dX0_joltFor_6 : decode cX0_joltFor 6 = .ok (.iload_n 2, 1) := by decide +kernel
theorem dX0_joltFor_7 : decode cX0_joltFor 7 = .ok (.putfield 60, 3) := by decide +kernel
theorem dX0_joltFor_10 : decode cX0_joltFor 10 = .ok (.aload_n 0, 1) := by decide +kernel
theorem dX0_joltFor_11 : decode cX0_joltFor 11 = .ok (.getfield 27, 3) := by decide +kernel
theorem dX0_joltFor_14 : decode cX0_joltFor 14 = .ok (.bipush 44, 2) := by decide +kernel
theorem dX0_joltFor_16 : decode cX0_joltFor 16 = .ok (.bipush (-2), 2) := by decide +kernel
theorem dX0_joltFor_18 : decode cX0_joltFor 18 = .ok (.invokevirtual 49, 3) := by decide +kernel
theorem dX0_joltFor_21 : decode cX0_joltFor 21 = .ok (.iconst 0, 1) := by decide +kernel
theorem dX0_joltFor_22 : decode cX0_joltFor 22 = .ok (.istore 4, 2) := by decide +kernel
theorem dX0_joltFor_24 : decode cX0_joltFor 24 = .ok (.iload 4, 2) := by decide +kernel
theorem dX0_joltFor_26 : decode cX0_joltFor 26 = .ok (.iload_n 2, 1) := by decide +kernel
theorem dX0_joltFor_27 : decode cX0_joltFor 27 = .ok (.iload_n 3, 1) := by decide +kernel
theorem dX0_joltFor_28 : decode cX0_joltFor 28 = .ok (.iadd, 1) := by decide +kernel
theorem dX0_joltFor_29 : decode cX0_joltFor 29 = .ok (.if_icmp .ge 18, 3) := by decide +kernel
theorem dX0_joltFor_32 : decode cX0_joltFor 32 = .ok (.aload_n 0, 1) := by decide +kernel
theorem dX0_joltFor_33 : decode cX0_joltFor 33 = .ok (.iconst 1, 1) := by decide +kernel
theorem dX0_joltFor_34 : decode cX0_joltFor 34 = .ok (.invokevirtual 133, 3) := by decide +kernel
theorem dX0_joltFor_37 : decode cX0_joltFor 37 = .ok (.aload_n 0, 1) := by decide +kernel
theorem dX0_joltFor_38 : decode cX0_joltFor 38 = .ok (.invokevirtual 136, 3) := by decide +kernel
theorem dX0_joltFor_41 : decode cX0_joltFor 41 = .ok (.iinc 4 1, 3) := by decide +kernel
theorem dX0_joltFor_44 : decode cX0_joltFor 44 = .ok (.goto (-20), 3) := by decide +kernel
theorem dX0_joltFor_47 : decode cX0_joltFor 47 = .ok (.return_, 1) := by decide +kernel
theorem dX0_shows_0 : decode cX0_shows 0 = .ok (.iconst 0, 1) := by decide +kernel
theorem dX0_shows_1 : decode cX0_shows 1 = .ok (.istore_n 2, 1) := by decide +kernel
theorem dX0_shows_2 : decode cX0_shows 2 = .ok (.iload_n 2, 1) := by decide +kernel
theorem dX0_shows_3 : decode cX0_shows 3 = .ok (.iload_n 1, 1) := by decide +kernel
theorem dX0_shows_4 : decode cX0_shows 4 = .ok (.if_icmp .gt 62, 3) := by decide +kernel
theorem dX0_shows_7 : decode cX0_shows 7 = .ok (.iconst 0, 1) := by decide +kernel
theorem dX0_shows_8 : decode cX0_shows 8 = .ok (.istore_n 3, 1) := by decide +kernel
theorem dX0_shows_9 : decode cX0_shows 9 = .ok (.iload_n 3, 1) := by decide +kernel
theorem dX0_shows_10 : decode cX0_shows 10 = .ok (.aload_n 0, 1) := by decide +kernel
theorem dX0_shows_11 : decode cX0_shows 11 = .ok (.getfield 41, 3) := by decide +kernel
theorem dX0_shows_14 : decode cX0_shows 14 = .ok (.getfield 139, 3) := by decide +kernel
theorem dX0_shows_17 : decode cX0_shows 17 = .ok (.invokevirtual 110, 3) := by decide +kernel
theorem dX0_shows_20 : decode cX0_shows 20 = .ok (.if_icmp .ge 35, 3) := by decide +kernel
theorem dX0_shows_23 : decode cX0_shows 23 = .ok (.aload_n 0, 1) := by decide +kernel
theorem dX0_shows_24 : decode cX0_shows 24 = .ok (.getfield 41, 3) := by decide +kernel
theorem dX0_shows_27 : decode cX0_shows 27 = .ok (.getfield 139, 3) := by decide +kernel
theorem dX0_shows_30 : decode cX0_shows 30 = .ok (.iload_n 3, 1) := by decide +kernel
theorem dX0_shows_31 : decode cX0_shows 31 = .ok (.iconst 0, 1) := by decide +kernel
theorem dX0_shows_32 : decode cX0_shows 32 = .ok (.invokevirtual 142, 3) := by decide +kernel
theorem dX0_shows_35 : decode cX0_shows 35 = .ok (.iload_n 2, 1) := by decide +kernel
theorem dX0_shows_36 : decode cX0_shows 36 = .ok (.if_icmp .ne 13, 3) := by decide +kernel
theorem dX0_shows_39 : decode cX0_shows 39 = .ok (.aload_n 0, 1) := by decide +kernel
theorem dX0_shows_40 : decode cX0_shows 40 = .ok (.iload_n 3, 1) := by decide +kernel
theorem dX0_shows_41 : decode cX0_shows 41 = .ok (.invokevirtual 146, 3) := by decide +kernel
theorem dX0_shows_44 : decode cX0_shows 44 = .ok (.ifCond .ne 5, 3) := by decide +kernel
theorem dX0_shows_47 : decode cX0_shows 47 = .ok (.iconst 0, 1) := by decide +kernel
theorem dX0_shows_48 : decode cX0_shows 48 = .ok (.ireturn, 1) := by decide +kernel
theorem dX0_shows_49 : decode cX0_shows 49 = .ok (.iinc 3 1, 3) := by decide +kernel
theorem dX0_shows_52 : decode cX0_shows 52 = .ok (.goto (-43), 3) := by decide +kernel
theorem dX0_shows_55 : decode cX0_shows 55 = .ok (.aload_n 0, 1) := by decide +kernel
theorem dX0_shows_56 : decode cX0_shows 56 = .ok (.iconst 1, 1) := by decide +kernel
theorem dX0_shows_57 : decode cX0_shows 57 = .ok (.invokevirtual 133, 3) := by decide +kernel
theorem dX0_shows_60 : decode cX0_shows 60 = .ok (.iinc 2 1, 3) := by decide +kernel
theorem dX0_shows_63 : decode cX0_shows 63 = .ok (.goto (-61), 3) := by decide +kernel
theorem dX0_shows_66 : decode cX0_shows 66 = .ok (.iconst 1, 1) := by decide +kernel
theorem dX0_shows_67 : decode cX0_shows 67 = .ok (.ireturn, 1) := by decide +kernel
theorem dX0_wentOf_0 : decode cX0_wentOf 0 = .ok (.aload_n 0, 1) := by decide +kernel
theorem dX0_wentOf_1 : decode cX0_wentOf 1 = .ok (.getfield 23, 3) := by decide +kernel
theorem dX0_wentOf_4 : decode cX0_wentOf 4 = .ok (.aload_n 0, 1) := by decide +kernel
theorem dX0_wentOf_5 : decode cX0_wentOf 5 = .ok (.getfield 12, 3) := by decide +kernel
theorem dX0_wentOf_8 : decode cX0_wentOf 8 = .ok (.getfield 149, 3) := by decide +kernel
theorem dX0_wentOf_11 : decode cX0_wentOf 11 = .ok (.iload_n 1, 1) := by decide +kernel
theorem dX0_wentOf_12 : decode cX0_wentOf 12 = .ok (.iconst 0, 1) := by decide +kernel
theorem dX0_wentOf_13 : decode cX0_wentOf 13 = .ok (.invokevirtual 142, 3) := by decide +kernel
theorem dX0_wentOf_16 : decode cX0_wentOf 16 = .ok (.iconst 0, 1) := by decide +kernel
theorem dX0_wentOf_17 : decode cX0_wentOf 17 = .ok (.invokevirtual 142, 3) := by decide +kernel
theorem dX0_wentOf_20 : decode cX0_wentOf 20 = .ok (.ireturn, 1) := by decide +kernel
theorem dX0_shown_0 : decode cX0_shown 0 = .ok (.aload_n 0, 1) := by decide +kernel
theorem dX0_shown_1 : decode cX0_shown 1 = .ok (.getfield 12, 3) := by decide +kernel
theorem dX0_shown_4 : decode cX0_shown 4 = .ok (.aload_n 0, 1) := by decide +kernel
theorem dX0_shown_5 : decode cX0_shown 5 = .ok (.getfield 41, 3) := by decide +kernel
theorem dX0_shown_8 : decode cX0_shown 8 = .ok (.getfield 139, 3) := by decide +kernel
theorem dX0_shown_11 : decode cX0_shown 11 = .ok (.iload_n 1, 1) := by decide +kernel
theorem dX0_shown_12 : decode cX0_shown 12 = .ok (.iconst 1, 1) := by decide +kernel
theorem dX0_shown_13 : decode cX0_shown 13 = .ok (.invokevirtual 142, 3) := by decide +kernel
theorem dX0_shown_16 : decode cX0_shown 16 = .ok (.invokevirtual 152, 3) := by decide +kernel
theorem dX0_shown_19 : decode cX0_shown 19 = .ok (.istore_n 2, 1) := by decide +kernel
theorem dX0_shown_20 : decode cX0_shown 20 = .ok (.iload_n 2, 1) := by decide +kernel
theorem dX0_shown_21 : decode cX0_shown 21 = .ok (.ifCond .lt 30, 3) := by decide +kernel
theorem dX0_shown_24 : decode cX0_shown 24 = .ok (.aload_n 0, 1) := by decide +kernel
theorem dX0_shown_25 : decode cX0_shown 25 = .ok (.getfield 12, 3) := by decide +kernel
theorem dX0_shown_28 : decode cX0_shown 28 = .ok (.iload_n 2, 1) := by decide +kernel
theorem dX0_shown_29 : decode cX0_shown 29 = .ok (.invokevirtual 156, 3) := by decide +kernel
theorem dX0_shown_32 : decode cX0_shown 32 = .ok (.aload_n 0, 1) := by decide +kernel
theorem dX0_shown_33 : decode cX0_shown 33 = .ok (.getfield 41, 3) := by decide +kernel
theorem dX0_shown_36 : decode cX0_shown 36 = .ok (.getfield 139, 3) := by decide +kernel
theorem dX0_shown_39 : decode cX0_shown 39 = .ok (.iload_n 1, 1) := by decide +kernel
theorem dX0_shown_40 : decode cX0_shown 40 = .ok (.iconst 2, 1) := by decide +kernel
theorem dX0_shown_41 : decode cX0_shown 41 = .ok (.invokevirtual 142, 3) := by decide +kernel
theorem dX0_shown_44 : decode cX0_shown 44 = .ok (.if_icmp .ne 7, 3) := by decide +kernel
theorem dX0_shown_47 : decode cX0_shown 47 = .ok (.iconst 1, 1) := by decide +kernel
theorem dX0_shown_48 : decode cX0_shown 48 = .ok (.goto 4, 3) := by decide +kernel
theorem dX0_shown_51 : decode cX0_shown 51 = .ok (.iconst 0, 1) := by decide +kernel
theorem dX0_shown_52 : decode cX0_shown 52 = .ok (.ireturn, 1) := by decide +kernel
theorem dX0_measure_0 : decode cX0_measure 0 = .ok (.iconst 1, 1) := by decide +kernel
theorem dX0_measure_1 : decode cX0_measure 1 = .ok (.istore_n 1, 1) := by decide +kernel
theorem dX0_measure_2 : decode cX0_measure 2 = .ok (.iload_n 1, 1) := by decide +kernel
theorem dX0_measure_3 : decode cX0_measure 3 = .ok (.aload_n 0, 1) := by decide +kernel
theorem dX0_measure_4 : decode cX0_measure 4 = .ok (.getfield 12, 3) := by decide +kernel
theorem dX0_measure_7 : decode cX0_measure 7 = .ok (.getfield 149, 3) := by decide +kernel
theorem dX0_measure_10 : decode cX0_measure 10 = .ok (.invokevirtual 110, 3) := by decide +kernel
theorem dX0_measure_13 : decode cX0_measure 13 = .ok (.if_icmp .ge 51, 3) := by decide +kernel
theorem dX0_measure_16 : decode cX0_measure 16 = .ok (.aload_n 0, 1) := by decide +kernel
theorem dX0_measure_17 : decode cX0_measure 17 = .ok (.getfield 12, 3) := by decide +kernel
theorem dX0_measure_20 : decode cX0_measure 20 = .ok (.getfield 149, 3) := by decide +kernel
theorem dX0_measure_23 : decode cX0_measure 23 = .ok (.iload_n 1, 1) := by decide +kernel
theorem dX0_measure_24 : decode cX0_measure 24 = .ok (.iconst 0, 1) := by decide +kernel
theorem dX0_measure_25 : decode cX0_measure 25 = .ok (.invokevirtual 142, 3) := by decide +kernel
theorem dX0_measure_28 : decode cX0_measure 28 = .ok (.istore_n 2, 1) := by decide +kernel
theorem dX0_measure_29 : decode cX0_measure 29 = .ok (.aload_n 0, 1) := by decide +kernel
theorem dX0_measure_30 : decode cX0_measure 30 = .ok (.getfield 27, 3) := by decide +kernel
theorem dX0_measure_33 : decode cX0_measure 33 = .ok (.iload_n 2, 1) := by decide +kernel
theorem dX0_measure_34 : decode cX0_measure 34 = .ok (.iconst 0, 1) := by decide +kernel
theorem dX0_measure_35 : decode cX0_measure 35 = .ok (.aload_n 0, 1) := by decide +kernel
theorem dX0_measure_36 : decode cX0_measure 36 = .ok (.getfield 27, 3) := by decide +kernel
theorem dX0_measure_39 : decode cX0_measure 39 = .ok (.iload_n 2, 1) := by decide +kernel
theorem dX0_measure_40 : decode cX0_measure 40 = .ok (.iconst 0, 1) := by decide +kernel
theorem dX0_measure_41 : decode cX0_measure 41 = .ok (.invokevirtual 142, 3) := by decide +kernel
theorem dX0_measure_44 : decode cX0_measure 44 = .ok (.aload_n 0, 1) := by decide +kernel
theorem dX0_measure_45 : decode cX0_measure 45 = .ok (.getfield 12, 3) := by decide +kernel
theorem dX0_measure_48 : decode cX0_measure 48 = .ok (.iload_n 1, 1) := by decide +kernel
theorem dX0_measure_49 : decode cX0_measure 49 = .ok (.invokevirtual 159, 3) := by decide +kernel
theorem dX0_measure_52 : decode cX0_measure 52 = .ok (.invokestatic 162, 3) := by decide +kernel
theorem dX0_measure_55 : decode cX0_measure 55 = .ok (.invokevirtual 167, 3) := by decide +kernel
theorem dX0_measure_58 : decode cX0_measure 58 = .ok (.iinc 1 1, 3) := by decide +kernel
theorem dX0_measure_61 : decode cX0_measure 61 = .ok (.goto (-59), 3) := by decide +kernel
theorem dX0_measure_64 : decode cX0_measure 64 = .ok (.return_, 1) := by decide +kernel
theorem dX0_stepsDue_0 : decode cX0_stepsDue 0 = .ok (.aload_n 0, 1) := by decide +kernel
theorem dX0_stepsDue_1 : decode cX0_stepsDue 1 = .ok (.getfield 60, 3) := by decide +kernel
theorem dX0_stepsDue_4 : decode cX0_stepsDue 4 = .ok (.ifCond .le 15, 3) := by decide +kernel
theorem dX0_stepsDue_7 : decode cX0_stepsDue 7 = .ok (.aload_n 0, 1) := by decide +kernel
theorem dX0_stepsDue_8 : decode cX0_stepsDue 8 = .ok (.dup, 1) := by decide +kernel
theorem dX0_stepsDue_9 : decode cX0_stepsDue 9 = .ok (.getfield 60, 3) := by decide +kernel
theorem dX0_stepsDue_12 : decode cX0_stepsDue 12 = .ok (.iconst 1, 1) := by decide +kernel
theorem dX0_stepsDue_13 : decode cX0_stepsDue 13 = .ok (.isub, 1) := by decide +kernel
theorem dX0_stepsDue_14 : decode cX0_stepsDue 14 = .ok (.putfield 60, 3) := by decide +kernel
theorem dX0_stepsDue_17 : decode cX0_stepsDue 17 = .ok (.iconst 0, 1) := by decide +kernel
theorem dX0_stepsDue_18 : decode cX0_stepsDue 18 = .ok (.ireturn, 1) := by decide +kernel
theorem dX0_stepsDue_19 : decode cX0_stepsDue 19 = .ok (.aload_n 0, 1) := by decide +kernel
theorem dX0_stepsDue_20 : decode cX0_stepsDue 20 = .ok (.getfield 56, 3) := by decide +kernel
theorem dX0_stepsDue_23 : decode cX0_stepsDue 23 = .ok (.ifCond .lt 10, 3) := by decide +kernel
theorem dX0_stepsDue_26 : decode cX0_stepsDue 26 = .ok (.aload_n 0, 1) := by decide +kernel
theorem dX0_stepsDue_27 : decode cX0_stepsDue 27 = .ok (.getfield 56, 3) := by decide +kernel
theorem dX0_stepsDue_30 : decode cX0_stepsDue 30 = .ok (.goto 17, 3) := by decide +kernel
theorem dX0_stepsDue_33 : decode cX0_stepsDue 33 = .ok (.aload_n 0, 1) := by decide +kernel
theorem dX0_stepsDue_34 : decode cX0_stepsDue 34 = .ok (.getfield 41, 3) := by decide +kernel
theorem dX0_stepsDue_37 : decode cX0_stepsDue 37 = .ok (.aload_n 0, 1) := by decide +kernel
theorem dX0_stepsDue_38 : decode cX0_stepsDue 38 = .ok (.getfield 12, 3) := by decide +kernel
theorem dX0_stepsDue_41 : decode cX0_stepsDue 41 = .ok (.getfield 88, 3) := by decide +kernel
theorem dX0_stepsDue_44 : decode cX0_stepsDue 44 = .ok (.invokevirtual 171, 3) := by decide +kernel
theorem dX0_stepsDue_47 : decode cX0_stepsDue 47 = .ok (.ireturn, 1) := by decide +kernel
theorem dX0_goAhead_0 : decode cX0_goAhead 0 = .ok (.aload_n 0, 1) := by decide +kernel
theorem dX0_goAhead_1 : decode cX0_goAhead 1 = .ok (.getfield 12, 3) := by decide +kernel
theorem dX0_goAhead_4 : decode cX0_goAhead 4 = .ok (.aload_n 0, 1) := by decide +kernel
theorem dX0_goAhead_5 : decode cX0_goAhead 5 = .ok (.getfield 41, 3) := by decide +kernel
theorem dX0_goAhead_8 : decode cX0_goAhead 8 = .ok (.getfield 173, 3) := by decide +kernel
theorem dX0_goAhead_11 : decode cX0_goAhead 11 = .ok (.invokevirtual 110, 3) := by decide +kernel
theorem dX0_goAhead_14 : decode cX0_goAhead 14 = .ok (.aload_n 0, 1) := by decide +kernel
theorem dX0_goAhead_15 : decode cX0_goAhead 15 = .ok (.getfield 35, 3) := by decide +kernel
theorem dX0_goAhead_18 : decode cX0_goAhead 18 = .ok (.invokevirtual 176, 3) := by decide +kernel
theorem dX0_goAhead_21 : decode cX0_goAhead 21 = .ok (.iconst 0, 1) := by decide +kernel
theorem dX0_goAhead_22 : decode cX0_goAhead 22 = .ok (.istore_n 2, 1) := by decide +kernel
theorem dX0_goAhead_23 : decode cX0_goAhead 23 = .ok (.iload_n 2, 1) := by decide +kernel
theorem dX0_goAhead_24 : decode cX0_goAhead 24 = .ok (.iload_n 1, 1) := by decide +kernel
theorem dX0_goAhead_25 : decode cX0_goAhead 25 = .ok (.if_icmp .ge 120, 3) := by decide +kernel
theorem dX0_goAhead_28 : decode cX0_goAhead 28 = .ok (.aload_n 0, 1) := by decide +kernel
theorem dX0_goAhead_29 : decode cX0_goAhead 29 = .ok (.invokevirtual 180, 3) := by decide +kernel
theorem dX0_goAhead_32 : decode cX0_goAhead 32 = .ok (.aload_n 0, 1) := by decide +kernel
theorem dX0_goAhead_33 : decode cX0_goAhead 33 = .ok (.invokevirtual 183, 3) := by decide +kernel
theorem dX0_goAhead_36 : decode cX0_goAhead 36 = .ok (.istore_n 3, 1) := by decide +kernel
theorem dX0_goAhead_37 : decode cX0_goAhead 37 = .ok (.iload_n 3, 1) := by decide +kernel
theorem dX0_goAhead_38 : decode cX0_goAhead 38 = .ok (.ifCond .ge 7, 3) := by decide +kernel
theorem dX0_goAhead_41 : decode cX0_goAhead 41 = .ok (.iconst (-1), 1) := by decide +kernel
theorem dX0_goAhead_42 : decode cX0_goAhead 42 = .ok (.goto 12, 3) := by decide +kernel
theorem dX0_goAhead_45 : decode cX0_goAhead 45 = .ok (.aload_n 0, 1) := by decide +kernel
theorem dX0_goAhead_46 : decode cX0_goAhead 46 = .ok (.getfield 38, 3) := by decide +kernel
theorem dX0_goAhead_49 : decode cX0_goAhead 49 = .ok (.iload_n 3, 1) := by decide +kernel
theorem dX0_goAhead_50 : decode cX0_goAhead 50 = .ok (.iconst 0, 1) := by decide +kernel
theorem dX0_goAhead_51 : decode cX0_goAhead 51 = .ok (.invokevirtual 142, 3) := by decide +kernel
theorem dX0_goAhead_54 : decode cX0_goAhead 54 = .ok (.istore 4, 2) := by decide +kernel
theorem dX0_goAhead_56 : decode cX0_goAhead 56 = .ok (.iload 4, 2) := by decide +kernel
theorem dX0_goAhead_58 : decode cX0_goAhead 58 = .ok (.ifCond .ge 6, 3) := by decide +kernel
theorem dX0_goAhead_61 : decode cX0_goAhead 61 = .ok (.goto 78, 3) := by decide +kernel
theorem dX0_goAhead_64 : decode cX0_goAhead 64 = .ok (.aload_n 0, 1) := by decide +kernel
theorem dX0_goAhead_65 : decode cX0_goAhead 65 = .ok (.getfield 12, 3) := by decide +kernel
theorem dX0_goAhead_68 : decode cX0_goAhead 68 = .ok (.getfield 107, 3) := by decide +kernel
theorem dX0_goAhead_71 : decode cX0_goAhead 71 = .ok (.iload 4, 2) := by decide +kernel
theorem dX0_goAhead_73 : decode cX0_goAhead 73 = .ok (.invokevirtual 124, 3) := by decide +kernel
theorem dX0_goAhead_76 : decode cX0_goAhead 76 = .ok (.aload_n 0, 1) := by decide +kernel
theorem dX0_goAhead_77 : decode cX0_goAhead 77 = .ok (.getfield 12, 3) := by decide +kernel
theorem dX0_goAhead_80 : decode cX0_goAhead 80 = .ok (.getfield 149, 3) := by decide +kernel
theorem dX0_goAhead_83 : decode cX0_goAhead 83 = .ok (.iconst 0, 1) := by decide +kernel
theorem dX0_goAhead_84 : decode cX0_goAhead 84 = .ok (.iconst 1, 1) := by decide +kernel
theorem dX0_goAhead_85 : decode cX0_goAhead 85 = .ok (.aload_n 0, 1) := by decide +kernel
theorem dX0_goAhead_86 : decode cX0_goAhead 86 = .ok (.getfield 12, 3) := by decide +kernel
theorem dX0_goAhead_89 : decode cX0_goAhead 89 = .ok (.getfield 107, 3) := by decide +kernel
theorem dX0_goAhead_92 : decode cX0_goAhead 92 = .ok (.invokevirtual 110, 3) := by decide +kernel
theorem dX0_goAhead_95 : decode cX0_goAhead 95 = .ok (.iconst 1, 1) := by decide +kernel
theorem dX0_goAhead_96 : decode cX0_goAhead 96 = .ok (.isub, 1) := by decide +kernel
theorem dX0_goAhead_97 : decode cX0_goAhead 97 = .ok (.invokevirtual 167, 3) := by decide +kernel
theorem dX0_goAhead_100 : decode cX0_goAhead 100 = .ok (.aload_n 0, 1) := by decide +kernel
theorem dX0_goAhead_101 : decode cX0_goAhead 101 = .ok (.getfield 12, 3) := by decide +kernel
theorem dX0_goAhead_104 : decode cX0_goAhead 104 = .ok (.iload_n 3, 1) := by decide +kernel
theorem dX0_goAhead_105 : decode cX0_goAhead 105 = .ok (.putfield 186, 3) := by decide +kernel
theorem dX0_goAhead_108 : decode cX0_goAhead 108 = .ok (.aload_n 0, 1) := by decide +kernel
theorem dX0_goAhead_109 : decode cX0_goAhead 109 = .ok (.iconst 0, 1) := by decide +kernel
theorem dX0_goAhead_110 : decode cX0_goAhead 110 = .ok (.iconst 1, 1) := by decide +kernel
theorem dX0_goAhead_111 : decode cX0_goAhead 111 = .ok (.invokevirtual 189, 3) := by decide +kernel
theorem dX0_goAhead_114 : decode cX0_goAhead 114 = .ok (.aload_n 0, 1) := by decide +kernel
theorem dX0_goAhead_115 : decode cX0_goAhead 115 = .ok (.getfield 41, 3) := by decide +kernel
theorem dX0_goAhead_118 : decode cX0_goAhead 118 = .ok (.getfield 192, 3) := by decide +kernel
theorem dX0_goAhead_121 : decode cX0_goAhead 121 = .ok (.ifCond .eq 18, 3) := by decide +kernel
theorem dX0_goAhead_124 : decode cX0_goAhead 124 = .ok (.aload_n 0, 1) := by decide +kernel
theorem dX0_goAhead_125 : decode cX0_goAhead 125 = .ok (.getfield 35, 3) := by decide +kernel
theorem dX0_goAhead_128 : decode cX0_goAhead 128 = .ok (.iload 4, 2) := by decide +kernel
theorem dX0_goAhead_130 : decode cX0_goAhead 130 = .ok (.iconst 0, 1) := by decide +kernel
theorem dX0_goAhead_131 : decode cX0_goAhead 131 = .ok (.invokevirtual 142, 3) := by decide +kernel
theorem dX0_goAhead_134 : decode cX0_goAhead 134 = .ok (.ifCond .eq 5, 3) := by decide +kernel
theorem dX0_goAhead_137 : decode cX0_goAhead 137 = .ok (.iconst 1, 1) := by decide +kernel
theorem dX0_goAhead_138 : decode cX0_goAhead 138 = .ok (.ireturn, 1) := by decide +kernel
theorem dX0_goAhead_139 : decode cX0_goAhead 139 = .ok (.iinc 2 1, 3) := by decide +kernel
theorem dX0_goAhead_142 : decode cX0_goAhead 142 = .ok (.goto (-119), 3) := by decide +kernel
theorem dX0_goAhead_145 : decode cX0_goAhead 145 = .ok (.iconst 0, 1) := by decide +kernel
theorem dX0_goAhead_146 : decode cX0_goAhead 146 = .ok (.ireturn, 1) := by decide +kernel
theorem dX0_lookAround_0 : decode cX0_lookAround 0 = .ok (.aload_n 0, 1) := by decide +kernel
theorem dX0_lookAround_1 : decode cX0_lookAround 1 = .ok (.getfield 12, 3) := by decide +kernel
theorem dX0_lookAround_4 : decode cX0_lookAround 4 = .ok (.getfield 149, 3) := by decide +kernel
theorem dX0_lookAround_7 : decode cX0_lookAround 7 = .ok (.invokevirtual 110, 3) := by decide +kernel
theorem dX0_lookAround_10 : decode cX0_lookAround 10 = .ok (.istore_n 1, 1) := by decide +kernel
theorem dX0_lookAround_11 : decode cX0_lookAround 11 = .ok (.aload_n 0, 1) := by decide +kernel
theorem dX0_lookAround_12 : decode cX0_lookAround 12 = .ok (.getfield 12, 3) := by decide +kernel
theorem dX0_lookAround_15 : decode cX0_lookAround 15 = .ok (.iconst 0, 1) := by decide +kernel
theorem dX0_lookAround_16 : decode cX0_lookAround 16 = .ok (.invokevirtual 156, 3) := by decide +kernel
theorem dX0_lookAround_19 : decode cX0_lookAround 19 = .ok (.istore_n 2, 1) := by decide +kernel
theorem dX0_lookAround_20 : decode cX0_lookAround 20 = .ok (.iload_n 1, 1) := by decide +kernel
theorem dX0_lookAround_21 : decode cX0_lookAround 21 = .ok (.iconst 3, 1) := by decide +kernel
theorem dX0_lookAround_22 : decode cX0_lookAround 22 = .ok (.if_icmp .lt 16, 3) := by decide +kernel
theorem dX0_lookAround_25 : decode cX0_lookAround 25 = .ok (.aload_n 0, 1) := by decide +kernel
theorem dX0_lookAround_26 : decode cX0_lookAround 26 = .ok (.getfield 12, 3) := by decide +kernel
theorem dX0_lookAround_29 : decode cX0_lookAround 29 = .ok (.iload_n 1, 1) := by decide +kernel
theorem dX0_lookAround_30 : decode cX0_lookAround 30 = .ok (.iconst 1, 1) := by decide +kernel
theorem dX0_lookAround_31 : decode cX0_lookAround 31 = .ok (.isub, 1) := by decide +kernel
theorem dX0_lookAround_32 : decode cX0_lookAround 32 = .ok (.invokevirtual 156, 3) := by decide +kernel
theorem dX0_lookAround_35 : decode cX0_lookAround 35 = .ok (.goto 4, 3) := by decide +kernel
theorem dX0_lookAround_38 : decode cX0_lookAround 38 = .ok (.iconst (-1), 1) := by decide +kernel
theorem dX0_lookAround_39 : decode cX0_lookAround 39 = .ok (.istore_n 3, 1) := by decide +kernel
theorem dX0_lookAround_40 : decode cX0_lookAround 40 = .ok (.aload_n 0, 1) := by decide +kernel
theorem dX0_lookAround_41 : decode cX0_lookAround 41 = .ok (.getfield 38, 3) := by decide +kernel
theorem dX0_lookAround_44 : decode cX0_lookAround 44 = .ok (.iconst 4, 1) := by decide +kernel
theorem dX0_lookAround_45 : decode cX0_lookAround 45 = .ok (.iconst (-1), 1) := by decide +kernel
theorem dX0_lookAround_46 : decode cX0_lookAround 46 = .ok (.invokevirtual 49, 3) := by decide +kernel
theorem dX0_lookAround_49 : decode cX0_lookAround 49 = .ok (.iconst 0, 1) := by decide +kernel
theorem dX0_lookAround_50 : decode cX0_lookAround 50 = .ok (.istore 4, 2) := by decide +kernel
theorem dX0_lookAround_52 : decode cX0_lookAround 52 = .ok (.iload 4, 2) := by decide +kernel
theorem dX0_lookAround_54 : decode cX0_lookAround 54 = .ok (.iconst 4, 1) := by decide +kernel
theorem dX0_lookAround_55 : decode cX0_lookAround 55 = .ok (.if_icmp .ge 81, 3) := by decide +kernel
theorem dX0_lookAround_58 : decode cX0_lookAround 58 = .ok (.aload_n 0, 1) := by decide +kernel
theorem dX0_lookAround_59 : decode cX0_lookAround 59 = .ok (.getfield 41, 3) := by decide +kernel
theorem dX0_lookAround_62 : decode cX0_lookAround 62 = .ok (.getfield 196, 3) := by decide +kernel
theorem dX0_lookAround_65 : decode cX0_lookAround 65 = .ok (.iload_n 2, 1) := by decide +kernel
theorem dX0_lookAround_66 : decode cX0_lookAround 66 = .ok (.iload 4, 2) := by decide +kernel
theorem dX0_lookAround_68 : decode cX0_lookAround 68 = .ok (.invokevirtual 142, 3) := by decide +kernel
theorem dX0_lookAround_71 : decode cX0_lookAround 71 = .ok (.istore 5, 2) := by decide +kernel
theorem dX0_lookAround_73 : decode cX0_lookAround 73 = .ok (.aload_n 0, 1) := by decide +kernel
theorem dX0_lookAround_74 : decode cX0_lookAround 74 = .ok (.getfield 41, 3) := by decide +kernel
theorem dX0_lookAround_77 : decode cX0_lookAround 77 = .ok (.getfield 192, 3) := by decide +kernel
theorem dX0_lookAround_80 : decode cX0_lookAround 80 = .ok (.ifCond .eq 26, 3) := by decide +kernel
theorem dX0_lookAround_83 : decode cX0_lookAround 83 = .ok (.iload 5, 2) := by decide +kernel
theorem dX0_lookAround_85 : decode cX0_lookAround 85 = .ok (.iload_n 3, 1) := by decide +kernel
theorem dX0_lookAround_86 : decode cX0_lookAround 86 = .ok (.if_icmp .eq 20, 3) := by decide +kernel
theorem dX0_lookAround_89 : decode cX0_lookAround 89 = .ok (.aload_n 0, 1) := by decide +kernel
theorem dX0_lookAround_90 : decode cX0_lookAround 90 = .ok (.getfield 35, 3) := by decide +kernel
theorem dX0_lookAround_93 : decode cX0_lookAround 93 = .ok (.iload 5, 2) := by decide +kernel
theorem dX0_lookAround_95 : decode cX0_lookAround 95 = .ok (.iconst 0, 1) := by decide +kernel
theorem dX0_lookAround_96 : decode cX0_lookAround 96 = .ok (.invokevirtual 142, 3) := by decide +kernel
theorem dX0_lookAround_99 : decode cX0_lookAround 99 = .ok (.ifCond .eq 7, 3) := by decide +kernel
theorem dX0_lookAround_102 : decode cX0_lookAround 102 = .ok (.iconst 1, 1) := by decide +kernel
theorem dX0_lookAround_103 : decode cX0_lookAround 103 = .ok (.goto 4, 3) := by decide +kernel
theorem dX0_lookAround_106 : decode cX0_lookAround 106 = .ok (.iconst 0, 1) := by decide +kernel
theorem dX0_lookAround_107 : decode cX0_lookAround 107 = .ok (.istore 6, 2) := by decide +kernel
theorem dX0_lookAround_109 : decode cX0_lookAround 109 = .ok (.aload_n 0, 1) := by decide +kernel
theorem dX0_lookAround_110 : decode cX0_lookAround 110 = .ok (.getfield 38, 3) := by decide +kernel
theorem dX0_lookAround_113 : decode cX0_lookAround 113 = .ok (.iload 4, 2) := by decide +kernel
theorem dX0_lookAround_115 : decode cX0_lookAround 115 = .ok (.iconst 0, 1) := by decide +kernel
theorem dX0_lookAround_116 : decode cX0_lookAround 116 = .ok (.iload 6, 2) := by decide +kernel
theorem dX0_lookAround_118 : decode cX0_lookAround 118 = .ok (.ifCond .eq 7, 3) := by decide +kernel
theorem dX0_lookAround_121 : decode cX0_lookAround 121 = .ok (.iconst (-1), 1) := by decide +kernel
theorem dX0_lookAround_122 : decode cX0_lookAround 122 = .ok (.goto 5, 3) := by decide +kernel
theorem dX0_lookAround_125 : decode cX0_lookAround 125 = .ok (.iload 5, 2) := by decide +kernel
theorem dX0_lookAround_127 : decode cX0_lookAround 127 = .ok (.invokevirtual 167, 3) := by decide +kernel
theorem dX0_lookAround_130 : decode cX0_lookAround 130 = .ok (.iinc 4 1, 3) := by decide +kernel
theorem dX0_lookAround_133 : decode cX0_lookAround 133 = .ok (.goto (-81), 3) := by decide +kernel
theorem dX0_lookAround_136 : decode cX0_lookAround 136 = .ok (.return_, 1) := by decide +kernel
theorem dX0_sidePicked_0 : decode cX0_sidePicked 0 = .ok (.aload_n 0, 1) := by decide +kernel
theorem dX0_sidePicked_1 : decode cX0_sidePicked 1 = .ok (.getfield 12, 3) := by decide +kernel
theorem dX0_sidePicked_4 : decode cX0_sidePicked 4 = .ok (.getfield 127, 3) := by decide +kernel
theorem dX0_sidePicked_7 : decode cX0_sidePicked 7 = .ok (.tableswitch 40 3 5 #[25, 30, 35], 25) := by decide +kernel
theorem dX0_sidePicked_32 : decode cX0_sidePicked 32 = .ok (.aload_n 0, 1) := by decide +kernel
theorem dX0_sidePicked_33 : decode cX0_sidePicked 33 = .ok (.invokevirtual 199, 3) := by decide +kernel
theorem dX0_sidePicked_36 : decode cX0_sidePicked 36 = .ok (.ireturn, 1) := by decide +kernel
theorem dX0_sidePicked_37 : decode cX0_sidePicked 37 = .ok (.aload_n 0, 1) := by decide +kernel
theorem dX0_sidePicked_38 : decode cX0_sidePicked 38 = .ok (.invokevirtual 202, 3) := by decide +kernel
theorem dX0_sidePicked_41 : decode cX0_sidePicked 41 = .ok (.ireturn, 1) := by decide +kernel
theorem dX0_sidePicked_42 : decode cX0_sidePicked 42 = .ok (.aload_n 0, 1) := by decide +kernel
theorem dX0_sidePicked_43 : decode cX0_sidePicked 43 = .ok (.invokevirtual 205, 3) := by decide +kernel
theorem dX0_sidePicked_46 : decode cX0_sidePicked 46 = .ok (.ireturn, 1) := by decide +kernel
theorem dX0_sidePicked_47 : decode cX0_sidePicked 47 = .ok (.aload_n 0, 1) := by decide +kernel
theorem dX0_sidePicked_48 : decode cX0_sidePicked 48 = .ok (.invokevirtual 208, 3) := by decide +kernel
theorem dX0_sidePicked_51 : decode cX0_sidePicked 51 = .ok (.ireturn, 1) := by decide +kernel
theorem dX0_sideByHand_0 : decode cX0_sideByHand 0 = .ok (.iconst 0, 1) := by decide +kernel
theorem dX0_sideByHand_1 : decode cX0_sideByHand 1 = .ok (.istore_n 1, 1) := by decide +kernel
theorem dX0_sideByHand_2 : decode cX0_sideByHand 2 = .ok (.iload_n 1, 1) := by decide +kernel
theorem dX0_sideByHand_3 : decode cX0_sideByHand 3 = .ok (.iconst 4, 1) := by decide +kernel
theorem dX0_sideByHand_4 : decode cX0_sideByHand 4 = .ok (.if_icmp .ge 72, 3) := by decide +kernel
theorem dX0_sideByHand_7 : decode cX0_sideByHand 7 = .ok (.aload_n 0, 1) := by decide +kernel
theorem dX0_sideByHand_8 : decode cX0_sideByHand 8 = .ok (.getfield 12, 3) := by decide +kernel
theorem dX0_sideByHand_11 : decode cX0_sideByHand 11 = .ok (.getfield 127, 3) := by decide +kernel
theorem dX0_sideByHand_14 : decode cX0_sideByHand 14 = .ok (.iconst 4, 1) := by decide +kernel
theorem dX0_sideByHand_15 : decode cX0_sideByHand 15 = .ok (.imul, 1) := by decide +kernel
theorem dX0_sideByHand_16 : decode cX0_sideByHand 16 = .ok (.iload_n 1, 1) := by decide +kernel
theorem dX0_sideByHand_17 : decode cX0_sideByHand 17 = .ok (.iadd, 1) := by decide +kernel
theorem dX0_sideByHand_18 : decode cX0_sideByHand 18 = .ok (.istore_n 2, 1) := by decide +kernel
theorem dX0_sideByHand_19 : decode cX0_sideByHand 19 = .ok (.iload_n 2, 1) := by decide +kernel
theorem dX0_sideByHand_20 : decode cX0_sideByHand 20 = .ok (.ifCond .lt 19, 3) := by decide +kernel
theorem dX0_sideByHand_23 : decode cX0_sideByHand 23 = .ok (.iload_n 2, 1) := by decide +kernel
theorem dX0_sideByHand_24 : decode cX0_sideByHand 24 = .ok (.getstatic 211, 3) := by decide +kernel
theorem dX0_sideByHand_27 : decode cX0_sideByHand 27 = .ok (.arraylength, 1) := by decide +kernel
theorem dX0_sideByHand_28 : decode cX0_sideByHand 28 = .ok (.if_icmp .ge 11, 3) := by decide +kernel
theorem dX0_sideByHand_31 : decode cX0_sideByHand 31 = .ok (.getstatic 211, 3) := by decide +kernel
theorem dX0_sideByHand_34 : decode cX0_sideByHand 34 = .ok (.iload_n 2, 1) := by decide +kernel
theorem dX0_sideByHand_35 : decode cX0_sideByHand 35 = .ok (.iaload, 1) := by decide +kernel
theorem dX0_sideByHand_36 : decode cX0_sideByHand 36 = .ok (.goto 4, 3) := by decide +kernel
theorem dX0_sideByHand_39 : decode cX0_sideByHand 39 = .ok (.iconst 0, 1) := by decide +kernel
theorem dX0_sideByHand_40 : decode cX0_sideByHand 40 = .ok (.istore_n 3, 1) := by decide +kernel
theorem dX0_sideByHand_41 : decode cX0_sideByHand 41 = .ok (.aload_n 0, 1) := by decide +kernel
theorem dX0_sideByHand_42 : decode cX0_sideByHand 42 = .ok (.getfield 12, 3) := by decide +kernel
theorem dX0_sideByHand_45 : decode cX0_sideByHand 45 = .ok (.getfield 186, 3) := by decide +kernel
theorem dX0_sideByHand_48 : decode cX0_sideByHand 48 = .ok (.iload_n 3, 1) := by decide +kernel
theorem dX0_sideByHand_49 : decode cX0_sideByHand 49 = .ok (.iadd, 1) := by decide +kernel
theorem dX0_sideByHand_50 : decode cX0_sideByHand 50 = .ok (.iconst 4, 1) := by decide +kernel
theorem dX0_sideByHand_51 : decode cX0_sideByHand 51 = .ok (.irem, 1) := by decide +kernel
theorem dX0_sideByHand_52 : decode cX0_sideByHand 52 = .ok (.istore 4, 2) := by decide +kernel
theorem dX0_sideByHand_54 : decode cX0_sideByHand 54 = .ok (.aload_n 0, 1) := by decide +kernel
theorem dX0_sideByHand_55 : decode cX0_sideByHand 55 = .ok (.getfield 38, 3) := by decide +kernel
theorem dX0_sideByHand_58 : decode cX0_sideByHand 58 = .ok (.iload 4, 2) := by decide +kernel
theorem dX0_sideByHand_60 : decode cX0_sideByHand 60 = .ok (.iconst 0, 1) := by decide +kernel
theorem dX0_sideByHand_61 : decode cX0_sideByHand 61 = .ok (.invokevirtual 142, 3) := by decide +kernel
theorem dX0_sideByHand_64 : decode cX0_sideByHand 64 = .ok (.ifCond .lt 6, 3) := by decide +kernel
theorem dX0_sideByHand_67 : decode cX0_sideByHand 67 = .ok (.iload 4, 2) := by decide +kernel
theorem dX0_sideByHand_69 : decode cX0_sideByHand 69 = .ok (.ireturn, 1) := by decide +kernel
theorem dX0_sideByHand_70 : decode cX0_sideByHand 70 = .ok (.iinc 1 1, 3) := by decide +kernel
theorem dX0_sideByHand_73 : decode cX0_sideByHand 73 = .ok (.goto (-71), 3) := by decide +kernel
theorem dX0_sideByHand_76 : decode cX0_sideByHand 76 = .ok (.iconst (-1), 1) := by decide +kernel
theorem dX0_sideByHand_77 : decode cX0_sideByHand 77 = .ok (.ireturn, 1) := by decide +kernel
theorem dX0_sideByLot_0 : decode cX0_sideByLot 0 = .ok (.iconst 0, 1) := by decide +kernel
theorem dX0_sideByLot_1 : decode cX0_sideByLot 1 = .ok (.istore_n 1, 1) := by decide +kernel
theorem dX0_sideByLot_2 : decode cX0_sideByLot 2 = .ok (.iconst 0, 1) := by decide +kernel
theorem dX0_sideByLot_3 : decode cX0_sideByLot 3 = .ok (.istore_n 2, 1) := by decide +kernel
theorem dX0_sideByLot_4 : decode cX0_sideByLot 4 = .ok (.iload_n 2, 1) := by decide +kernel
theorem dX0_sideByLot_5 : decode cX0_sideByLot 5 = .ok (.iconst 4, 1) := by decide +kernel
theorem dX0_sideByLot_6 : decode cX0_sideByLot 6 = .ok (.if_icmp .ge 29, 3) := by decide +kernel
theorem dX0_sideByLot_9 : decode cX0_sideByLot 9 = .ok (.iload_n 1, 1) := by decide +kernel
theorem dX0_sideByLot_10 : decode cX0_sideByLot 10 = .ok (.aload_n 0, 1) := by decide +kernel
theorem dX0_sideByLot_11 : decode cX0_sideByLot 11 = .ok (.getfield 38, 3) := by decide +kernel
theorem dX0_sideByLot_14 : decode cX0_sideByLot 14 = .ok (.iload_n 2, 1) := by decide +kernel
theorem dX0_sideByLot_15 : decode cX0_sideByLot 15 = .ok (.iconst 0, 1) := by decide +kernel
theorem dX0_sideByLot_16 : decode cX0_sideByLot 16 = .ok (.invokevirtual 142, 3) := by decide +kernel
theorem dX0_sideByLot_19 : decode cX0_sideByLot 19 = .ok (.ifCond .lt 7, 3) := by decide +kernel
theorem dX0_sideByLot_22 : decode cX0_sideByLot 22 = .ok (.iconst 1, 1) := by decide +kernel
theorem dX0_sideByLot_23 : decode cX0_sideByLot 23 = .ok (.goto 4, 3) := by decide +kernel
theorem dX0_sideByLot_26 : decode cX0_sideByLot 26 = .ok (.iconst 0, 1) := by decide +kernel
theorem dX0_sideByLot_27 : decode cX0_sideByLot 27 = .ok (.iadd, 1) := by decide +kernel
theorem dX0_sideByLot_28 : decode cX0_sideByLot 28 = .ok (.istore_n 1, 1) := by decide +kernel
theorem dX0_sideByLot_29 : decode cX0_sideByLot 29 = .ok (.iinc 2 1, 3) := by decide +kernel
theorem dX0_sideByLot_32 : decode cX0_sideByLot 32 = .ok (.goto (-28), 3) := by decide +kernel
theorem dX0_sideByLot_35 : decode cX0_sideByLot 35 = .ok (.iload_n 1, 1) := by decide +kernel
theorem dX0_sideByLot_36 : decode cX0_sideByLot 36 = .ok (.iconst 1, 1) := by decide +kernel
theorem dX0_sideByLot_37 : decode cX0_sideByLot 37 = .ok (.if_icmp .ge 5, 3) := by decide +kernel
theorem dX0_sideByLot_40 : decode cX0_sideByLot 40 = .ok (.iconst (-1), 1) := by decide +kernel
theorem dX0_sideByLot_41 : decode cX0_sideByLot 41 = .ok (.ireturn, 1) := by decide +kernel
theorem dX0_sideByLot_42 : decode cX0_sideByLot 42 = .ok (.aload_n 0, 1) := by decide +kernel
theorem dX0_sideByLot_43 : decode cX0_sideByLot 43 = .ok (.getfield 12, 3) := by decide +kernel
theorem dX0_sideByLot_46 : decode cX0_sideByLot 46 = .ok (.invokevirtual 215, 3) := by decide +kernel
theorem dX0_sideByLot_49 : decode cX0_sideByLot 49 = .ok (.iload_n 1, 1) := by decide +kernel
theorem dX0_sideByLot_50 : decode cX0_sideByLot 50 = .ok (.irem, 1) := by decide +kernel
theorem dX0_sideByLot_51 : decode cX0_sideByLot 51 = .ok (.istore_n 2, 1) := by decide +kernel
theorem dX0_sideByLot_52 : decode cX0_sideByLot 52 = .ok (.iconst 0, 1) := by decide +kernel
theorem dX0_sideByLot_53 : decode cX0_sideByLot 53 = .ok (.istore_n 3, 1) := by decide +kernel
theorem dX0_sideByLot_54 : decode cX0_sideByLot 54 = .ok (.iload_n 3, 1) := by decide +kernel
theorem dX0_sideByLot_55 : decode cX0_sideByLot 55 = .ok (.iconst 4, 1) := by decide +kernel
theorem dX0_sideByLot_56 : decode cX0_sideByLot 56 = .ok (.if_icmp .ge 33, 3) := by decide +kernel
theorem dX0_sideByLot_59 : decode cX0_sideByLot 59 = .ok (.aload_n 0, 1) := by decide +kernel
theorem dX0_sideByLot_60 : decode cX0_sideByLot 60 = .ok (.getfield 38, 3) := by decide +kernel
theorem dX0_sideByLot_63 : decode cX0_sideByLot 63 = .ok (.iload_n 3, 1) := by decide +kernel
theorem dX0_sideByLot_64 : decode cX0_sideByLot 64 = .ok (.iconst 0, 1) := by decide +kernel
theorem dX0_sideByLot_65 : decode cX0_sideByLot 65 = .ok (.invokevirtual 142, 3) := by decide +kernel
theorem dX0_sideByLot_68 : decode cX0_sideByLot 68 = .ok (.ifCond .ge 6, 3) := by decide +kernel
theorem dX0_sideByLot_71 : decode cX0_sideByLot 71 = .ok (.goto 12, 3) := by decide +kernel
theorem dX0_sideByLot_74 : decode cX0_sideByLot 74 = .ok (.iload_n 2, 1) := by decide +kernel
theorem dX0_sideByLot_75 : decode cX0_sideByLot 75 = .ok (.ifCond .ne 5, 3) := by decide +kernel
theorem dX0_sideByLot_78 : decode cX0_sideByLot 78 = .ok (.iload_n 3, 1) := by decide +kernel
theorem dX0_sideByLot_79 : decode cX0_sideByLot 79 = .ok (.ireturn, 1) := by decide +kernel
theorem dX0_sideByLot_80 : decode cX0_sideByLot 80 = .ok (.iinc 2 (-1), 3) := by decide +kernel
theorem dX0_sideByLot_83 : decode cX0_sideByLot 83 = .ok (.iinc 3 1, 3) := by decide +kernel
theorem dX0_sideByLot_86 : decode cX0_sideByLot 86 = .ok (.goto (-32), 3) := by decide +kernel
theorem dX0_sideByLot_89 : decode cX0_sideByLot 89 = .ok (.iconst (-1), 1) := by decide +kernel
theorem dX0_sideByLot_90 : decode cX0_sideByLot 90 = .ok (.ireturn, 1) := by decide +kernel
theorem dX0_sideHome_0 : decode cX0_sideHome 0 = .ok (.iconst (-1), 1) := by decide +kernel
theorem dX0_sideHome_1 : decode cX0_sideHome 1 = .ok (.istore_n 1, 1) := by decide +kernel
theorem dX0_sideHome_2 : decode cX0_sideHome 2 = .ok (.bipush 48, 2) := by decide +kernel
theorem dX0_sideHome_4 : decode cX0_sideHome 4 = .ok (.istore_n 2, 1) := by decide +kernel
theorem dX0_sideHome_5 : decode cX0_sideHome 5 = .ok (.aload_n 0, 1) := by decide +kernel
theorem dX0_sideHome_6 : decode cX0_sideHome 6 = .ok (.getfield 12, 3) := by decide +kernel
theorem dX0_sideHome_9 : decode cX0_sideHome 9 = .ok (.getfield 107, 3) := by decide +kernel
theorem dX0_sideHome_12 : decode cX0_sideHome 12 = .ok (.aload_n 0, 1) := by decide +kernel
theorem dX0_sideHome_13 : decode cX0_sideHome 13 = .ok (.getfield 12, 3) := by decide +kernel
theorem dX0_sideHome_16 : decode cX0_sideHome 16 = .ok (.getfield 107, 3) := by decide +kernel
theorem dX0_sideHome_19 : decode cX0_sideHome 19 = .ok (.invokevirtual 110, 3) := by decide +kernel
theorem dX0_sideHome_22 : decode cX0_sideHome 22 = .ok (.iconst 1, 1) := by decide +kernel
theorem dX0_sideHome_23 : decode cX0_sideHome 23 = .ok (.isub, 1) := by decide +kernel
theorem dX0_sideHome_24 : decode cX0_sideHome 24 = .ok (.iconst 0, 1) := by decide +kernel
theorem dX0_sideHome_25 : decode cX0_sideHome 25 = .ok (.invokevirtual 142, 3) := by decide +kernel
theorem dX0_sideHome_28 : decode cX0_sideHome 28 = .ok (.aload_n 0, 1) := by decide +kernel
theorem dX0_sideHome_29 : decode cX0_sideHome 29 = .ok (.getfield 41, 3) := by decide +kernel
theorem dX0_sideHome_32 : decode cX0_sideHome 32 = .ok (.getfield 218, 3) := by decide +kernel
theorem dX0_sideHome_35 : decode cX0_sideHome 35 = .ok (.if_icmp .ne 5, 3) := by decide +kernel
theorem dX0_sideHome_38 : decode cX0_sideHome 38 = .ok (.iconst (-1), 1) := by decide +kernel
theorem dX0_sideHome_39 : decode cX0_sideHome 39 = .ok (.ireturn, 1) := by decide +kernel
theorem dX0_sideHome_40 : decode cX0_sideHome 40 = .ok (.iconst 0, 1) := by decide +kernel
theorem dX0_sideHome_41 : decode cX0_sideHome 41 = .ok (.istore_n 3, 1) := by decide +kernel
theorem dX0_sideHome_42 : decode cX0_sideHome 42 = .ok (.iload_n 3, 1) := by decide +kernel
theorem dX0_sideHome_43 : decode cX0_sideHome 43 = .ok (.iconst 4, 1) := by decide +kernel
theorem dX0_sideHome_44 : decode cX0_sideHome 44 = .ok (.if_icmp .ge 60, 3) := by decide +kernel
theorem dX0_sideHome_47 : decode cX0_sideHome 47 = .ok (.aload_n 0, 1) := by decide +kernel
theorem dX0_sideHome_48 : decode cX0_sideHome 48 = .ok (.getfield 38, 3) := by decide +kernel
theorem dX0_sideHome_51 : decode cX0_sideHome 51 = .ok (.iload_n 3, 1) := by decide +kernel
theorem dX0_sideHome_52 : decode cX0_sideHome 52 = .ok (.iconst 0, 1) := by decide +kernel
theorem dX0_sideHome_53 : decode cX0_sideHome 53 = .ok (.invokevirtual 142, 3) := by decide +kernel
theorem dX0_sideHome_56 : decode cX0_sideHome 56 = .ok (.istore 4, 2) := by decide +kernel
theorem dX0_sideHome_58 : decode cX0_sideHome 58 = .ok (.iload 4, 2) := by decide +kernel
theorem dX0_sideHome_60 : decode cX0_sideHome 60 = .ok (.ifCond .ge 7, 3) := by decide +kernel
theorem dX0_sideHome_63 : decode cX0_sideHome 63 = .ok (.iconst (-1), 1) := by decide +kernel
theorem dX0_sideHome_64 : decode cX0_sideHome 64 = .ok (.goto 16, 3) := by decide +kernel
theorem dX0_sideHome_67 : decode cX0_sideHome 67 = .ok (.aload_n 0, 1) := by decide +kernel
theorem dX0_sideHome_68 : decode cX0_sideHome 68 = .ok (.getfield 41, 3) := by decide +kernel
theorem dX0_sideHome_71 : decode cX0_sideHome 71 = .ok (.getfield 221, 3) := by decide +kernel
theorem dX0_sideHome_74 : decode cX0_sideHome 74 = .ok (.iload 4, 2) := by decide +kernel
theorem dX0_sideHome_76 : decode cX0_sideHome 76 = .ok (.iconst 0, 1) := by decide +kernel
theorem dX0_sideHome_77 : decode cX0_sideHome 77 = .ok (.invokevirtual 142, 3) := by decide +kernel
theorem dX0_sideHome_80 : decode cX0_sideHome 80 = .ok (.istore 5, 2) := by decide +kernel
theorem dX0_sideHome_82 : decode cX0_sideHome 82 = .ok (.iload 5, 2) := by decide +kernel
theorem dX0_sideHome_84 : decode cX0_sideHome 84 = .ok (.ifCond .lt 14, 3) := by decide +kernel
theorem dX0_sideHome_87 : decode cX0_sideHome 87 = .ok (.iload 5, 2) := by decide +kernel
theorem dX0_sideHome_89 : decode cX0_sideHome 89 = .ok (.iload_n 2, 1) := by decide +kernel
theorem dX0_sideHome_90 : decode cX0_sideHome 90 = .ok (.if_icmp .ge 8, 3) := by decide +kernel
theorem dX0_sideHome_93 : decode cX0_sideHome 93 = .ok (.iload 5, 2) := by decide +kernel
theorem dX0_sideHome_95 : decode cX0_sideHome 95 = .ok (.istore_n 2, 1) := by decide +kernel
theorem dX0_sideHome_96 : decode cX0_sideHome 96 = .ok (.iload_n 3, 1) := by decide +kernel
theorem dX0_sideHome_97 : decode cX0_sideHome 97 = .ok (.istore_n 1, 1) := by decide +kernel
theorem dX0_sideHome_98 : decode cX0_sideHome 98 = .ok (.iinc 3 1, 3) := by decide +kernel
theorem dX0_sideHome_101 : decode cX0_sideHome 101 = .ok (.goto (-59), 3) := by decide +kernel
theorem dX0_sideHome_104 : decode cX0_sideHome 104 = .ok (.iload_n 1, 1) := by decide +kernel
theorem dX0_sideHome_105 : decode cX0_sideHome 105 = .ok (.ireturn, 1) := by decide +kernel
theorem dX0_sideTold_0 : decode cX0_sideTold 0 = .ok (.aload_n 0, 1) := by decide +kernel
theorem dX0_sideTold_1 : decode cX0_sideTold 1 = .ok (.getfield 12, 3) := by decide +kernel
theorem dX0_sideTold_4 : decode cX0_sideTold 4 = .ok (.getfield 130, 3) := by decide +kernel
theorem dX0_sideTold_7 : decode cX0_sideTold 7 = .ok (.aload_n 0, 1) := by decide +kernel
theorem dX0_sideTold_8 : decode cX0_sideTold 8 = .ok (.getfield 30, 3) := by decide +kernel
theorem dX0_sideTold_11 : decode cX0_sideTold 11 = .ok (.invokevirtual 110, 3) := by decide +kernel
theorem dX0_sideTold_14 : decode cX0_sideTold 14 = .ok (.if_icmp .lt 5, 3) := by decide +kernel
theorem dX0_sideTold_17 : decode cX0_sideTold 17 = .ok (.iconst (-1), 1) := by decide +kernel
theorem dX0_sideTold_18 : decode cX0_sideTold 18 = .ok (.ireturn, 1) := by decide +kernel
theorem dX0_sideTold_19 : decode cX0_sideTold 19 = .ok (.aload_n 0, 1) := by decide +kernel
theorem dX0_sideTold_20 : decode cX0_sideTold 20 = .ok (.getfield 12, 3) := by decide +kernel
theorem dX0_sideTold_23 : decode cX0_sideTold 23 = .ok (.dup, 1) := by decide +kernel
theorem dX0_sideTold_24 : decode cX0_sideTold 24 = .ok (.getfield 130, 3) := by decide +kernel
theorem dX0_sideTold_27 : decode cX0_sideTold 27 = .ok (.iconst 1, 1) := by decide +kernel
theorem dX0_sideTold_28 : decode cX0_sideTold 28 = .ok (.iadd, 1) := by decide +kernel
theorem dX0_sideTold_29 : decode cX0_sideTold 29 = .ok (.putfield 130, 3) := by decide +kernel
theorem dX0_sideTold_32 : decode cX0_sideTold 32 = .ok (.aload_n 0, 1) := by decide +kernel
theorem dX0_sideTold_33 : decode cX0_sideTold 33 = .ok (.getfield 30, 3) := by decide +kernel
theorem dX0_sideTold_36 : decode cX0_sideTold 36 = .ok (.aload_n 0, 1) := by decide +kernel
theorem dX0_sideTold_37 : decode cX0_sideTold 37 = .ok (.getfield 12, 3) := by decide +kernel
theorem dX0_sideTold_40 : decode cX0_sideTold 40 = .ok (.getfield 130, 3) := by decide +kernel
theorem dX0_sideTold_43 : decode cX0_sideTold 43 = .ok (.iconst 1, 1) := by decide +kernel
theorem dX0_sideTold_44 : decode cX0_sideTold 44 = .ok (.isub, 1) := by decide +kernel
theorem dX0_sideTold_45 : decode cX0_sideTold 45 = .ok (.iconst 0, 1) := by decide +kernel
theorem dX0_sideTold_46 : decode cX0_sideTold 46 = .ok (.invokevirtual 142, 3) := by decide +kernel
theorem dX0_sideTold_49 : decode cX0_sideTold 49 = .ok (.ireturn, 1) := by decide +kernel
theorem dX0_tally_0 : decode cX0_tally 0 = .ok (.aload_n 0, 1) := by decide +kernel
theorem dX0_tally_1 : decode cX0_tally 1 = .ok (.getfield 12, 3) := by decide +kernel
theorem dX0_tally_4 : decode cX0_tally 4 = .ok (.getfield 149, 3) := by decide +kernel
theorem dX0_tally_7 : decode cX0_tally 7 = .ok (.iload_n 1, 1) := by decide +kernel
theorem dX0_tally_8 : decode cX0_tally 8 = .ok (.iconst 0, 1) := by decide +kernel
theorem dX0_tally_9 : decode cX0_tally 9 = .ok (.invokevirtual 142, 3) := by decide +kernel
theorem dX0_tally_12 : decode cX0_tally 12 = .ok (.istore_n 3, 1) := by decide +kernel
theorem dX0_tally_13 : decode cX0_tally 13 = .ok (.aload_n 0, 1) := by decide +kernel
theorem dX0_tally_14 : decode cX0_tally 14 = .ok (.getfield 23, 3) := by decide +kernel
theorem dX0_tally_17 : decode cX0_tally 17 = .ok (.iload_n 3, 1) := by decide +kernel
theorem dX0_tally_18 : decode cX0_tally 18 = .ok (.iconst 0, 1) := by decide +kernel
theorem dX0_tally_19 : decode cX0_tally 19 = .ok (.aload_n 0, 1) := by decide +kernel
theorem dX0_tally_20 : decode cX0_tally 20 = .ok (.getfield 23, 3) := by decide +kernel
theorem dX0_tally_23 : decode cX0_tally 23 = .ok (.iload_n 3, 1) := by decide +kernel
theorem dX0_tally_24 : decode cX0_tally 24 = .ok (.iconst 0, 1) := by decide +kernel
theorem dX0_tally_25 : decode cX0_tally 25 = .ok (.invokevirtual 142, 3) := by decide +kernel
theorem dX0_tally_28 : decode cX0_tally 28 = .ok (.iload_n 2, 1) := by decide +kernel
theorem dX0_tally_29 : decode cX0_tally 29 = .ok (.iadd, 1) := by decide +kernel
theorem dX0_tally_30 : decode cX0_tally 30 = .ok (.invokevirtual 167, 3) := by decide +kernel
theorem dX0_tally_33 : decode cX0_tally 33 = .ok (.return_, 1) := by decide +kernel
theorem dX0_comeAfter_0 : decode cX0_comeAfter 0 = .ok (.iconst 1, 1) := by decide +kernel
theorem dX0_comeAfter_1 : decode cX0_comeAfter 1 = .ok (.istore_n 1, 1) := by decide +kernel
theorem dX0_comeAfter_2 : decode cX0_comeAfter 2 = .ok (.iload_n 1, 1) := by decide +kernel
theorem dX0_comeAfter_3 : decode cX0_comeAfter 3 = .ok (.aload_n 0, 1) := by decide +kernel
theorem dX0_comeAfter_4 : decode cX0_comeAfter 4 = .ok (.getfield 12, 3) := by decide +kernel
theorem dX0_comeAfter_7 : decode cX0_comeAfter 7 = .ok (.getfield 149, 3) := by decide +kernel
theorem dX0_comeAfter_10 : decode cX0_comeAfter 10 = .ok (.invokevirtual 110, 3) := by decide +kernel
theorem dX0_comeAfter_13 : decode cX0_comeAfter 13 = .ok (.if_icmp .ge 135, 3) := by decide +kernel
theorem dX0_comeAfter_16 : decode cX0_comeAfter 16 = .ok (.aload_n 0, 1) := by decide +kernel
theorem dX0_comeAfter_17 : decode cX0_comeAfter 17 = .ok (.getfield 12, 3) := by decide +kernel
theorem dX0_comeAfter_20 : decode cX0_comeAfter 20 = .ok (.getfield 149, 3) := by decide +kernel
theorem dX0_comeAfter_23 : decode cX0_comeAfter 23 = .ok (.iload_n 1, 1) := by decide +kernel
theorem dX0_comeAfter_24 : decode cX0_comeAfter 24 = .ok (.iconst 1, 1) := by decide +kernel
theorem dX0_comeAfter_25 : decode cX0_comeAfter 25 = .ok (.invokevirtual 142, 3) := by decide +kernel
theorem dX0_comeAfter_28 : decode cX0_comeAfter 28 = .ok (.istore_n 2, 1) := by decide +kernel
theorem dX0_comeAfter_29 : decode cX0_comeAfter 29 = .ok (.aload_n 0, 1) := by decide +kernel
theorem dX0_comeAfter_30 : decode cX0_comeAfter 30 = .ok (.getfield 12, 3) := by decide +kernel
theorem dX0_comeAfter_33 : decode cX0_comeAfter 33 = .ok (.getfield 149, 3) := by decide +kernel
theorem dX0_comeAfter_36 : decode cX0_comeAfter 36 = .ok (.iload_n 1, 1) := by decide +kernel
theorem dX0_comeAfter_37 : decode cX0_comeAfter 37 = .ok (.iconst 1, 1) := by decide +kernel
theorem dX0_comeAfter_38 : decode cX0_comeAfter 38 = .ok (.isub, 1) := by decide +kernel
theorem dX0_comeAfter_39 : decode cX0_comeAfter 39 = .ok (.iconst 1, 1) := by decide +kernel
theorem dX0_comeAfter_40 : decode cX0_comeAfter 40 = .ok (.invokevirtual 142, 3) := by decide +kernel
theorem dX0_comeAfter_43 : decode cX0_comeAfter 43 = .ok (.iconst 1, 1) := by decide +kernel
theorem dX0_comeAfter_44 : decode cX0_comeAfter 44 = .ok (.isub, 1) := by decide +kernel
theorem dX0_comeAfter_45 : decode cX0_comeAfter 45 = .ok (.istore_n 3, 1) := by decide +kernel
theorem dX0_comeAfter_46 : decode cX0_comeAfter 46 = .ok (.aload_n 0, 1) := by decide +kernel
theorem dX0_comeAfter_47 : decode cX0_comeAfter 47 = .ok (.getfield 12, 3) := by decide +kernel
theorem dX0_comeAfter_50 : decode cX0_comeAfter 50 = .ok (.getfield 149, 3) := by decide +kernel
theorem dX0_comeAfter_53 : decode cX0_comeAfter 53 = .ok (.iload_n 1, 1) := by decide +kernel
theorem dX0_comeAfter_54 : decode cX0_comeAfter 54 = .ok (.iconst 2, 1) := by decide +kernel
theorem dX0_comeAfter_55 : decode cX0_comeAfter 55 = .ok (.invokevirtual 142, 3) := by decide +kernel
theorem dX0_comeAfter_58 : decode cX0_comeAfter 58 = .ok (.istore 4, 2) := by decide +kernel
theorem dX0_comeAfter_60 : decode cX0_comeAfter 60 = .ok (.aload_n 0, 1) := by decide +kernel
theorem dX0_comeAfter_61 : decode cX0_comeAfter 61 = .ok (.getfield 12, 3) := by decide +kernel
theorem dX0_comeAfter_64 : decode cX0_comeAfter 64 = .ok (.getfield 149, 3) := by decide +kernel
theorem dX0_comeAfter_67 : decode cX0_comeAfter 67 = .ok (.iload_n 1, 1) := by decide +kernel
theorem dX0_comeAfter_68 : decode cX0_comeAfter 68 = .ok (.iconst 3, 1) := by decide +kernel
theorem dX0_comeAfter_69 : decode cX0_comeAfter 69 = .ok (.invokevirtual 142, 3) := by decide +kernel
theorem dX0_comeAfter_72 : decode cX0_comeAfter 72 = .ok (.istore 5, 2) := by decide +kernel
theorem dX0_comeAfter_74 : decode cX0_comeAfter 74 = .ok (.iload_n 2, 1) := by decide +kernel
theorem dX0_comeAfter_75 : decode cX0_comeAfter 75 = .ok (.istore 6, 2) := by decide +kernel
theorem dX0_comeAfter_77 : decode cX0_comeAfter 77 = .ok (.iload 6, 2) := by decide +kernel
theorem dX0_comeAfter_79 : decode cX0_comeAfter 79 = .ok (.iload_n 3, 1) := by decide +kernel
theorem dX0_comeAfter_80 : decode cX0_comeAfter 80 = .ok (.if_icmp .ge 39, 3) := by decide +kernel
theorem dX0_comeAfter_83 : decode cX0_comeAfter 83 = .ok (.aload_n 0, 1) := by decide +kernel
theorem dX0_comeAfter_84 : decode cX0_comeAfter 84 = .ok (.getfield 12, 3) := by decide +kernel
theorem dX0_comeAfter_87 : decode cX0_comeAfter 87 = .ok (.iload 6, 2) := by decide +kernel
theorem dX0_comeAfter_89 : decode cX0_comeAfter 89 = .ok (.iload 4, 2) := by decide +kernel
theorem dX0_comeAfter_91 : decode cX0_comeAfter 91 = .ok (.invokevirtual 224, 3) := by decide +kernel
theorem dX0_comeAfter_94 : decode cX0_comeAfter 94 = .ok (.istore 7, 2) := by decide +kernel
theorem dX0_comeAfter_96 : decode cX0_comeAfter 96 = .ok (.iload 7, 2) := by decide +kernel
theorem dX0_comeAfter_98 : decode cX0_comeAfter 98 = .ok (.iload 5, 2) := by decide +kernel
theorem dX0_comeAfter_100 : decode cX0_comeAfter 100 = .ok (.if_icmp .le 6, 3) := by decide +kernel
theorem dX0_comeAfter_103 : decode cX0_comeAfter 103 = .ok (.goto 16, 3) := by decide +kernel
theorem dX0_comeAfter_106 : decode cX0_comeAfter 106 = .ok (.iload 5, 2) := by decide +kernel
theorem dX0_comeAfter_108 : decode cX0_comeAfter 108 = .ok (.iload 7, 2) := by decide +kernel
theorem dX0_comeAfter_110 : decode cX0_comeAfter 110 = .ok (.isub, 1) := by decide +kernel
theorem dX0_comeAfter_111 : decode cX0_comeAfter 111 = .ok (.istore 5, 2) := by decide +kernel
theorem dX0_comeAfter_113 : decode cX0_comeAfter 113 = .ok (.iinc 6 1, 3) := by decide +kernel
theorem dX0_comeAfter_116 : decode cX0_comeAfter 116 = .ok (.goto (-39), 3) := by decide +kernel
theorem dX0_comeAfter_119 : decode cX0_comeAfter 119 = .ok (.aload_n 0, 1) := by decide +kernel
theorem dX0_comeAfter_120 : decode cX0_comeAfter 120 = .ok (.getfield 12, 3) := by decide +kernel
theorem dX0_comeAfter_123 : decode cX0_comeAfter 123 = .ok (.getfield 149, 3) := by decide +kernel
theorem dX0_comeAfter_126 : decode cX0_comeAfter 126 = .ok (.iload_n 1, 1) := by decide +kernel
theorem dX0_comeAfter_127 : decode cX0_comeAfter 127 = .ok (.iconst 1, 1) := by decide +kernel
theorem dX0_comeAfter_128 : decode cX0_comeAfter 128 = .ok (.iload 6, 2) := by decide +kernel
theorem dX0_comeAfter_130 : decode cX0_comeAfter 130 = .ok (.invokevirtual 167, 3) := by decide +kernel
theorem dX0_comeAfter_133 : decode cX0_comeAfter 133 = .ok (.aload_n 0, 1) := by decide +kernel
theorem dX0_comeAfter_134 : decode cX0_comeAfter 134 = .ok (.iload_n 1, 1) := by decide +kernel
theorem dX0_comeAfter_135 : decode cX0_comeAfter 135 = .ok (.iload 6, 2) := by decide +kernel
theorem dX0_comeAfter_137 : decode cX0_comeAfter 137 = .ok (.iload_n 2, 1) := by decide +kernel
theorem dX0_comeAfter_138 : decode cX0_comeAfter 138 = .ok (.isub, 1) := by decide +kernel
theorem dX0_comeAfter_139 : decode cX0_comeAfter 139 = .ok (.invokevirtual 189, 3) := by decide +kernel
theorem dX0_comeAfter_142 : decode cX0_comeAfter 142 = .ok (.iinc 1 1, 3) := by decide +kernel
theorem dX0_comeAfter_145 : decode cX0_comeAfter 145 = .ok (.goto (-143), 3) := by decide +kernel
theorem dX0_comeAfter_148 : decode cX0_comeAfter 148 = .ok (.return_, 1) := by decide +kernel
theorem dX0_tear_0 : decode cX0_tear 0 = .ok (.aload_n 0, 1) := by decide +kernel
theorem dX0_tear_1 : decode cX0_tear 1 = .ok (.getfield 12, 3) := by decide +kernel
theorem dX0_tear_4 : decode cX0_tear 4 = .ok (.getfield 149, 3) := by decide +kernel
theorem dX0_tear_7 : decode cX0_tear 7 = .ok (.invokevirtual 110, 3) := by decide +kernel
theorem dX0_tear_10 : decode cX0_tear 10 = .ok (.istore_n 1, 1) := by decide +kernel
theorem dX0_tear_11 : decode cX0_tear 11 = .ok (.iconst 1, 1) := by decide +kernel
theorem dX0_tear_12 : decode cX0_tear 12 = .ok (.istore_n 2, 1) := by decide +kernel
theorem dX0_tear_13 : decode cX0_tear 13 = .ok (.iload_n 2, 1) := by decide +kernel
theorem dX0_tear_14 : decode cX0_tear 14 = .ok (.iload_n 1, 1) := by decide +kernel
theorem dX0_tear_15 : decode cX0_tear 15 = .ok (.if_icmp .ge 89, 3) := by decide +kernel
theorem dX0_tear_18 : decode cX0_tear 18 = .ok (.aload_n 0, 1) := by decide +kernel
theorem dX0_tear_19 : decode cX0_tear 19 = .ok (.getfield 12, 3) := by decide +kernel
theorem dX0_tear_22 : decode cX0_tear 22 = .ok (.iload_n 2, 1) := by decide +kernel
theorem dX0_tear_23 : decode cX0_tear 23 = .ok (.invokevirtual 159, 3) := by decide +kernel
theorem dX0_tear_26 : decode cX0_tear 26 = .ok (.aload_n 0, 1) := by decide +kernel
theorem dX0_tear_27 : decode cX0_tear 27 = .ok (.getfield 12, 3) := by decide +kernel
theorem dX0_tear_30 : decode cX0_tear 30 = .ok (.getfield 149, 3) := by decide +kernel
theorem dX0_tear_33 : decode cX0_tear 33 = .ok (.iload_n 2, 1) := by decide +kernel
theorem dX0_tear_34 : decode cX0_tear 34 = .ok (.iconst 4, 1) := by decide +kernel
theorem dX0_tear_35 : decode cX0_tear 35 = .ok (.invokevirtual 142, 3) := by decide +kernel
theorem dX0_tear_38 : decode cX0_tear 38 = .ok (.if_icmp .le 60, 3) := by decide +kernel
theorem dX0_tear_41 : decode cX0_tear 41 = .ok (.aload_n 0, 1) := by decide +kernel
theorem dX0_tear_42 : decode cX0_tear 42 = .ok (.getfield 66, 3) := by decide +kernel
theorem dX0_tear_45 : decode cX0_tear 45 = .ok (.ifCond .ge 29, 3) := by decide +kernel
theorem dX0_tear_48 : decode cX0_tear 48 = .ok (.aload_n 0, 1) := by decide +kernel
theorem dX0_tear_49 : decode cX0_tear 49 = .ok (.aload_n 0, 1) := by decide +kernel
theorem dX0_tear_50 : decode cX0_tear 50 = .ok (.getfield 63, 3) := by decide +kernel
theorem dX0_tear_53 : decode cX0_tear 53 = .ok (.iconst 1, 1) := by decide +kernel
theorem dX0_tear_54 : decode cX0_tear 54 = .ok (.isub, 1) := by decide +kernel
theorem dX0_tear_55 : decode cX0_tear 55 = .ok (.putfield 66, 3) := by decide +kernel
theorem dX0_tear_58 : decode cX0_tear 58 = .ok (.aload_n 0, 1) := by decide +kernel
theorem dX0_tear_59 : decode cX0_tear 59 = .ok (.aload_n 0, 1) := by decide +kernel
theorem dX0_tear_60 : decode cX0_tear 60 = .ok (.getfield 12, 3) := by decide +kernel
theorem dX0_tear_63 : decode cX0_tear 63 = .ok (.getfield 149, 3) := by decide +kernel
theorem dX0_tear_66 : decode cX0_tear 66 = .ok (.iload_n 2, 1) := by decide +kernel
theorem dX0_tear_67 : decode cX0_tear 67 = .ok (.iconst 0, 1) := by decide +kernel
theorem dX0_tear_68 : decode cX0_tear 68 = .ok (.invokevirtual 142, 3) := by decide +kernel
theorem dX0_tear_71 : decode cX0_tear 71 = .ok (.putfield 69, 3) := by decide +kernel
theorem dX0_tear_74 : decode cX0_tear 74 = .ok (.aload_n 0, 1) := by decide +kernel
theorem dX0_tear_75 : decode cX0_tear 75 = .ok (.dup, 1) := by decide +kernel
theorem dX0_tear_76 : decode cX0_tear 76 = .ok (.getfield 72, 3) := by decide +kernel
theorem dX0_tear_79 : decode cX0_tear 79 = .ok (.iload_n 1, 1) := by decide +kernel
theorem dX0_tear_80 : decode cX0_tear 80 = .ok (.iload_n 2, 1) := by decide +kernel
theorem dX0_tear_81 : decode cX0_tear 81 = .ok (.isub, 1) := by decide +kernel
theorem dX0_tear_82 : decode cX0_tear 82 = .ok (.iadd, 1) := by decide +kernel
theorem dX0_tear_83 : decode cX0_tear 83 = .ok (.putfield 72, 3) := by decide +kernel
theorem dX0_tear_86 : decode cX0_tear 86 = .ok (.aload_n 0, 1) := by decide +kernel
theorem dX0_tear_87 : decode cX0_tear 87 = .ok (.getfield 12, 3) := by decide +kernel
theorem dX0_tear_90 : decode cX0_tear 90 = .ok (.getfield 149, 3) := by decide +kernel
theorem dX0_tear_93 : decode cX0_tear 93 = .ok (.iload_n 2, 1) := by decide +kernel
theorem dX0_tear_94 : decode cX0_tear 94 = .ok (.invokevirtual 116, 3) := by decide +kernel
theorem dX0_tear_97 : decode cX0_tear 97 = .ok (.return_, 1) := by decide +kernel
theorem dX0_tear_98 : decode cX0_tear 98 = .ok (.iinc 2 1, 3) := by decide +kernel
theorem dX0_tear_101 : decode cX0_tear 101 = .ok (.goto (-88), 3) := by decide +kernel
theorem dX0_tear_104 : decode cX0_tear 104 = .ok (.return_, 1) := by decide +kernel
theorem dX0_leaveOnStairs_0 : decode cX0_leaveOnStairs 0 = .ok (.aload_n 0, 1) := by decide +kernel
theorem dX0_leaveOnStairs_1 : decode cX0_leaveOnStairs 1 = .ok (.getfield 12, 3) := by decide +kernel
theorem dX0_leaveOnStairs_4 : decode cX0_leaveOnStairs 4 = .ok (.getfield 149, 3) := by decide +kernel
theorem dX0_leaveOnStairs_7 : decode cX0_leaveOnStairs 7 = .ok (.invokevirtual 110, 3) := by decide +kernel
theorem dX0_leaveOnStairs_10 : decode cX0_leaveOnStairs 10 = .ok (.iconst 1, 1) := by decide +kernel
theorem dX0_leaveOnStairs_11 : decode cX0_leaveOnStairs 11 = .ok (.isub, 1) := by decide +kernel
theorem dX0_leaveOnStairs_12 : decode cX0_leaveOnStairs 12 = .ok (.istore_n 1, 1) := by decide +kernel
theorem dX0_leaveOnStairs_13 : decode cX0_leaveOnStairs 13 = .ok (.iload_n 1, 1) := by decide +kernel
theorem dX0_leaveOnStairs_14 : decode cX0_leaveOnStairs 14 = .ok (.iconst 1, 1) := by decide +kernel
theorem dX0_leaveOnStairs_15 : decode cX0_leaveOnStairs 15 = .ok (.if_icmp .lt 69, 3) := by decide +kernel
theorem dX0_leaveOnStairs_18 : decode cX0_leaveOnStairs 18 = .ok (.aload_n 0, 1) := by decide +kernel
theorem dX0_leaveOnStairs_19 : decode cX0_leaveOnStairs 19 = .ok (.getfield 12, 3) := by decide +kernel
theorem dX0_leaveOnStairs_22 : decode cX0_leaveOnStairs 22 = .ok (.getfield 149, 3) := by decide +kernel
theorem dX0_leaveOnStairs_25 : decode cX0_leaveOnStairs 25 = .ok (.iload_n 1, 1) := by decide +kernel
theorem dX0_leaveOnStairs_26 : decode cX0_leaveOnStairs 26 = .ok (.iconst 2, 1) := by decide +kernel
theorem dX0_leaveOnStairs_27 : decode cX0_leaveOnStairs 27 = .ok (.invokevirtual 142, 3) := by decide +kernel
theorem dX0_leaveOnStairs_30 : decode cX0_leaveOnStairs 30 = .ok (.iconst 1, 1) := by decide +kernel
theorem dX0_leaveOnStairs_31 : decode cX0_leaveOnStairs 31 = .ok (.if_icmp .ne 7, 3) := by decide +kernel
theorem dX0_leaveOnStairs_34 : decode cX0_leaveOnStairs 34 = .ok (.iconst 1, 1) := by decide +kernel
theorem dX0_leaveOnStairs_35 : decode cX0_leaveOnStairs 35 = .ok (.goto 4, 3) := by decide +kernel
theorem dX0_leaveOnStairs_38 : decode cX0_leaveOnStairs 38 = .ok (.iconst 0, 1) := by decide +kernel
theorem dX0_leaveOnStairs_39 : decode cX0_leaveOnStairs 39 = .ok (.istore_n 2, 1) := by decide +kernel
theorem dX0_leaveOnStairs_40 : decode cX0_leaveOnStairs 40 = .ok (.iload_n 2, 1) := by decide +kernel
theorem dX0_leaveOnStairs_41 : decode cX0_leaveOnStairs 41 = .ok (.ifCond .eq 37, 3) := by decide +kernel
theorem dX0_leaveOnStairs_44 : decode cX0_leaveOnStairs 44 = .ok (.aload_n 0, 1) := by decide +kernel
theorem dX0_leaveOnStairs_45 : decode cX0_leaveOnStairs 45 = .ok (.getfield 41, 3) := by decide +kernel
theorem dX0_leaveOnStairs_48 : decode cX0_leaveOnStairs 48 = .ok (.getfield 173, 3) := by decide +kernel
theorem dX0_leaveOnStairs_51 : decode cX0_leaveOnStairs 51 = .ok (.aload_n 0, 1) := by decide +kernel
theorem dX0_leaveOnStairs_52 : decode cX0_leaveOnStairs 52 = .ok (.getfield 12, 3) := by decide +kernel
theorem dX0_leaveOnStairs_55 : decode cX0_leaveOnStairs 55 = .ok (.iload_n 1, 1) := by decide +kernel
theorem dX0_leaveOnStairs_56 : decode cX0_leaveOnStairs 56 = .ok (.invokevirtual 156, 3) := by decide +kernel
theorem dX0_leaveOnStairs_59 : decode cX0_leaveOnStairs 59 = .ok (.iconst 0, 1) := by decide +kernel
theorem dX0_leaveOnStairs_60 : decode cX0_leaveOnStairs 60 = .ok (.invokevirtual 142, 3) := by decide +kernel
theorem dX0_leaveOnStairs_63 : decode cX0_leaveOnStairs 63 = .ok (.iconst 1, 1) := by decide +kernel
theorem dX0_leaveOnStairs_64 : decode cX0_leaveOnStairs 64 = .ok (.if_icmp .ne 14, 3) := by decide +kernel
theorem dX0_leaveOnStairs_67 : decode cX0_leaveOnStairs 67 = .ok (.aload_n 0, 1) := by decide +kernel
theorem dX0_leaveOnStairs_68 : decode cX0_leaveOnStairs 68 = .ok (.getfield 12, 3) := by decide +kernel
theorem dX0_leaveOnStairs_71 : decode cX0_leaveOnStairs 71 = .ok (.getfield 149, 3) := by decide +kernel
theorem dX0_leaveOnStairs_74 : decode cX0_leaveOnStairs 74 = .ok (.iload_n 1, 1) := by decide +kernel
theorem dX0_leaveOnStairs_75 : decode cX0_leaveOnStairs 75 = .ok (.invokevirtual 227, 3) := by decide +kernel
theorem dX0_leaveOnStairs_78 : decode cX0_leaveOnStairs 78 = .ok (.iinc 1 (-1), 3) := by decide +kernel
theorem dX0_leaveOnStairs_81 : decode cX0_leaveOnStairs 81 = .ok (.goto (-68), 3) := by decide +kernel
theorem dX0_leaveOnStairs_84 : decode cX0_leaveOnStairs 84 = .ok (.return_, 1) := by decide +kernel
theorem dX0_askAround_0 : decode cX0_askAround 0 = .ok (.iconst 0, 1) := by decide +kernel
theorem dX0_askAround_1 : decode cX0_askAround 1 = .ok (.istore_n 1, 1) := by decide +kernel
theorem dX0_askAround_2 : decode cX0_askAround 2 = .ok (.iload_n 1, 1) := by decide +kernel
theorem dX0_askAround_3 : decode cX0_askAround 3 = .ok (.aload_n 0, 1) := by decide +kernel
theorem dX0_askAround_4 : decode cX0_askAround 4 = .ok (.getfield 41, 3) := by decide +kernel
theorem dX0_askAround_7 : decode cX0_askAround 7 = .ok (.getfield 230, 3) := by decide +kernel
theorem dX0_askAround_10 : decode cX0_askAround 10 = .ok (.invokevirtual 110, 3) := by decide +kernel
theorem dX0_askAround_13 : decode cX0_askAround 13 = .ok (.if_icmp .ge 129, 3) := by decide +kernel
theorem dX0_askAround_16 : decode cX0_askAround 16 = .ok (.aload_n 0, 1) := by decide +kernel
theorem dX0_askAround_17 : decode cX0_askAround 17 = .ok (.getfield 12, 3) := by decide +kernel
theorem dX0_askAround_20 : decode cX0_askAround 20 = .ok (.getfield 233, 3) := by decide +kernel
theorem dX0_askAround_23 : decode cX0_askAround 23 = .ok (.iload_n 1, 1) := by decide +kernel
theorem dX0_askAround_24 : decode cX0_askAround 24 = .ok (.iconst 0, 1) := by decide +kernel
theorem dX0_askAround_25 : decode cX0_askAround 25 = .ok (.invokevirtual 142, 3) := by decide +kernel
theorem dX0_askAround_28 : decode cX0_askAround 28 = .ok (.istore_n 2, 1) := by decide +kernel
theorem dX0_askAround_29 : decode cX0_askAround 29 = .ok (.aload_n 0, 1) := by decide +kernel
theorem dX0_askAround_30 : decode cX0_askAround 30 = .ok (.aload_n 0, 1) := by decide +kernel
theorem dX0_askAround_31 : decode cX0_askAround 31 = .ok (.getfield 41, 3) := by decide +kernel
theorem dX0_askAround_34 : decode cX0_askAround 34 = .ok (.getfield 230, 3) := by decide +kernel
theorem dX0_askAround_37 : decode cX0_askAround 37 = .ok (.iload_n 1, 1) := by decide +kernel
theorem dX0_askAround_38 : decode cX0_askAround 38 = .ok (.iconst 0, 1) := by decide +kernel
theorem dX0_askAround_39 : decode cX0_askAround 39 = .ok (.invokevirtual 142, 3) := by decide +kernel
theorem dX0_askAround_42 : decode cX0_askAround 42 = .ok (.invokevirtual 236, 3) := by decide +kernel
theorem dX0_askAround_45 : decode cX0_askAround 45 = .ok (.istore_n 3, 1) := by decide +kernel
theorem dX0_askAround_46 : decode cX0_askAround 46 = .ok (.iload_n 2, 1) := by decide +kernel
theorem dX0_askAround_47 : decode cX0_askAround 47 = .ok (.iconst 1, 1) := by decide +kernel
theorem dX0_askAround_48 : decode cX0_askAround 48 = .ok (.if_icmp .lt 88, 3) := by decide +kernel
theorem dX0_askAround_51 : decode cX0_askAround 51 = .ok (.iload_n 3, 1) := by decide +kernel
theorem dX0_askAround_52 : decode cX0_askAround 52 = .ok (.ifCond .lt 84, 3) := by decide +kernel
theorem dX0_askAround_55 : decode cX0_askAround 55 = .ok (.aload_n 0, 1) := by decide +kernel
theorem dX0_askAround_56 : decode cX0_askAround 56 = .ok (.getfield 12, 3) := by decide +kernel
theorem dX0_askAround_59 : decode cX0_askAround 59 = .ok (.getfield 149, 3) := by decide +kernel
theorem dX0_askAround_62 : decode cX0_askAround 62 = .ok (.invokevirtual 110, 3) := by decide +kernel
theorem dX0_askAround_65 : decode cX0_askAround 65 = .ok (.bipush 16, 2) := by decide +kernel
theorem dX0_askAround_67 : decode cX0_askAround 67 = .ok (.if_icmp .lt 6, 3) := by decide +kernel
theorem dX0_askAround_70 : decode cX0_askAround 70 = .ok (.goto 66, 3) := by decide +kernel
theorem dX0_askAround_73 : decode cX0_askAround 73 = .ok (.aload_n 0, 1) := by decide +kernel
theorem dX0_askAround_74 : decode cX0_askAround 74 = .ok (.getfield 12, 3) := by decide +kernel
theorem dX0_askAround_77 : decode cX0_askAround 77 = .ok (.invokevirtual 215, 3) := by decide +kernel
theorem dX0_askAround_80 : decode cX0_askAround 80 = .ok (.bipush 100, 2) := by decide +kernel
theorem dX0_askAround_82 : decode cX0_askAround 82 = .ok (.irem, 1) := by decide +kernel
theorem dX0_askAround_83 : decode cX0_askAround 83 = .ok (.aload_n 0, 1) := by decide +kernel
theorem dX0_askAround_84 : decode cX0_askAround 84 = .ok (.getfield 41, 3) := by decide +kernel
theorem dX0_askAround_87 : decode cX0_askAround 87 = .ok (.getfield 230, 3) := by decide +kernel
theorem dX0_askAround_90 : decode cX0_askAround 90 = .ok (.iload_n 1, 1) := by decide +kernel
theorem dX0_askAround_91 : decode cX0_askAround 91 = .ok (.iconst 4, 1) := by decide +kernel
theorem dX0_askAround_92 : decode cX0_askAround 92 = .ok (.invokevirtual 142, 3) := by decide +kernel
theorem dX0_askAround_95 : decode cX0_askAround 95 = .ok (.if_icmp .ge 41, 3) := by decide +kernel
theorem dX0_askAround_98 : decode cX0_askAround 98 = .ok (.aload_n 0, 1) := by decide +kernel
theorem dX0_askAround_99 : decode cX0_askAround 99 = .ok (.getfield 12, 3) := by decide +kernel
theorem dX0_askAround_102 : decode cX0_askAround 102 = .ok (.getfield 233, 3) := by decide +kernel
theorem dX0_askAround_105 : decode cX0_askAround 105 = .ok (.iload_n 1, 1) := by decide +kernel
theorem dX0_askAround_106 : decode cX0_askAround 106 = .ok (.iconst 0, 1) := by decide +kernel
theorem dX0_askAround_107 : decode cX0_askAround 107 = .ok (.iload_n 2, 1) := by decide +kernel
theorem dX0_askAround_108 : decode cX0_askAround 108 = .ok (.iconst 1, 1) := by decide +kernel
theorem dX0_askAround_109 : decode cX0_askAround 109 = .ok (.isub, 1) := by decide +kernel
theorem dX0_askAround_110 : decode cX0_askAround 110 = .ok (.invokevirtual 167, 3) := by decide +kernel
theorem dX0_askAround_113 : decode cX0_askAround 113 = .ok (.aload_n 0, 1) := by decide +kernel
theorem dX0_askAround_114 : decode cX0_askAround 114 = .ok (.getfield 12, 3) := by decide +kernel
theorem dX0_askAround_117 : decode cX0_askAround 117 = .ok (.aload_n 0, 1) := by decide +kernel
theorem dX0_askAround_118 : decode cX0_askAround 118 = .ok (.getfield 41, 3) := by decide +kernel
theorem dX0_askAround_121 : decode cX0_askAround 121 = .ok (.iload_n 1, 1) := by decide +kernel
theorem dX0_askAround_122 : decode cX0_askAround 122 = .ok (.iload_n 3, 1) := by decide +kernel
theorem dX0_askAround_123 : decode cX0_askAround 123 = .ok (.invokevirtual 239, 3) := by decide +kernel
theorem dX0_askAround_126 : decode cX0_askAround 126 = .ok (.aload_n 0, 1) := by decide +kernel
theorem dX0_askAround_127 : decode cX0_askAround 127 = .ok (.dup, 1) := by decide +kernel
theorem dX0_askAround_128 : decode cX0_askAround 128 = .ok (.getfield 75, 3) := by decide +kernel
theorem dX0_askAround_131 : decode cX0_askAround 131 = .ok (.iconst 1, 1) := by decide +kernel
theorem dX0_askAround_132 : decode cX0_askAround 132 = .ok (.iadd, 1) := by decide +kernel
theorem dX0_askAround_133 : decode cX0_askAround 133 = .ok (.putfield 75, 3) := by decide +kernel
theorem dX0_askAround_136 : decode cX0_askAround 136 = .ok (.iinc 1 1, 3) := by decide +kernel
theorem dX0_askAround_139 : decode cX0_askAround 139 = .ok (.goto (-137), 3) := by decide +kernel
theorem dX0_askAround_142 : decode cX0_askAround 142 = .ok (.return_, 1) := by decide +kernel
theorem dX0_askerAt_0 : decode cX0_askerAt 0 = .ok (.iconst 0, 1) := by decide +kernel
theorem dX0_askerAt_1 : decode cX0_askerAt 1 = .ok (.istore_n 2, 1) := by decide +kernel
theorem dX0_askerAt_2 : decode cX0_askerAt 2 = .ok (.iload_n 2, 1) := by decide +kernel
theorem dX0_askerAt_3 : decode cX0_askerAt 3 = .ok (.aload_n 0, 1) := by decide +kernel
theorem dX0_askerAt_4 : decode cX0_askerAt 4 = .ok (.getfield 12, 3) := by decide +kernel
theorem dX0_askerAt_7 : decode cX0_askerAt 7 = .ok (.getfield 149, 3) := by decide +kernel
theorem dX0_askerAt_10 : decode cX0_askerAt 10 = .ok (.invokevirtual 110, 3) := by decide +kernel
theorem dX0_askerAt_13 : decode cX0_askerAt 13 = .ok (.if_icmp .ge 52, 3) := by decide +kernel
theorem dX0_askerAt_16 : decode cX0_askerAt 16 = .ok (.aload_n 0, 1) := by decide +kernel
theorem dX0_askerAt_17 : decode cX0_askerAt 17 = .ok (.getfield 12, 3) := by decide +kernel
theorem dX0_askerAt_20 : decode cX0_askerAt 20 = .ok (.iload_n 2, 1) := by decide +kernel
theorem dX0_askerAt_21 : decode cX0_askerAt 21 = .ok (.invokevirtual 156, 3) := by decide +kernel
theorem dX0_askerAt_24 : decode cX0_askerAt 24 = .ok (.istore_n 3, 1) := by decide +kernel
theorem dX0_askerAt_25 : decode cX0_askerAt 25 = .ok (.iconst 0, 1) := by decide +kernel
theorem dX0_askerAt_26 : decode cX0_askerAt 26 = .ok (.istore 4, 2) := by decide +kernel
theorem dX0_askerAt_28 : decode cX0_askerAt 28 = .ok (.iload 4, 2) := by decide +kernel
theorem dX0_askerAt_30 : decode cX0_askerAt 30 = .ok (.iconst 4, 1) := by decide +kernel
theorem dX0_askerAt_31 : decode cX0_askerAt 31 = .ok (.if_icmp .ge 28, 3) := by decide +kernel
theorem dX0_askerAt_34 : decode cX0_askerAt 34 = .ok (.aload_n 0, 1) := by decide +kernel
theorem dX0_askerAt_35 : decode cX0_askerAt 35 = .ok (.getfield 41, 3) := by decide +kernel
theorem dX0_askerAt_38 : decode cX0_askerAt 38 = .ok (.getfield 196, 3) := by decide +kernel
theorem dX0_askerAt_41 : decode cX0_askerAt 41 = .ok (.iload_n 1, 1) := by decide +kernel
theorem dX0_askerAt_42 : decode cX0_askerAt 42 = .ok (.iload 4, 2) := by decide +kernel
theorem dX0_askerAt_44 : decode cX0_askerAt 44 = .ok (.invokevirtual 142, 3) := by decide +kernel
theorem dX0_askerAt_47 : decode cX0_askerAt 47 = .ok (.iload_n 3, 1) := by decide +kernel
theorem dX0_askerAt_48 : decode cX0_askerAt 48 = .ok (.if_icmp .ne 5, 3) := by decide +kernel
theorem dX0_askerAt_51 : decode cX0_askerAt 51 = .ok (.iload_n 2, 1) := by decide +kernel
theorem dX0_askerAt_52 : decode cX0_askerAt 52 = .ok (.ireturn, 1) := by decide +kernel
theorem dX0_askerAt_53 : decode cX0_askerAt 53 = .ok (.iinc 4 1, 3) := by decide +kernel
theorem dX0_askerAt_56 : decode cX0_askerAt 56 = .ok (.goto (-28), 3) := by decide +kernel
theorem dX0_askerAt_59 : decode cX0_askerAt 59 = .ok (.iinc 2 1, 3) := by decide +kernel
theorem dX0_askerAt_62 : decode cX0_askerAt 62 = .ok (.goto (-60), 3) := by decide +kernel
theorem dX0_askerAt_65 : decode cX0_askerAt 65 = .ok (.iconst (-1), 1) := by decide +kernel
theorem dX0_askerAt_66 : decode cX0_askerAt 66 = .ok (.ireturn, 1) := by decide +kernel
theorem dX1_init_0 : decode cX1_init 0 = .ok (.aload_n 0, 1) := by decide +kernel
theorem dX1_init_1 : decode cX1_init 1 = .ok (.invokespecial 3, 3) := by decide +kernel
theorem dX1_init_4 : decode cX1_init 4 = .ok (.aload_n 0, 1) := by decide +kernel
theorem dX1_init_5 : decode cX1_init 5 = .ok (.new 9, 3) := by decide +kernel
theorem dX1_init_8 : decode cX1_init 8 = .ok (.dup, 1) := by decide +kernel
theorem dX1_init_9 : decode cX1_init 9 = .ok (.bipush 48, 2) := by decide +kernel
theorem dX1_init_11 : decode cX1_init 11 = .ok (.iconst 1, 1) := by decide +kernel
theorem dX1_init_12 : decode cX1_init 12 = .ok (.invokespecial 13, 3) := by decide +kernel
theorem dX1_init_15 : decode cX1_init 15 = .ok (.putfield 16, 3) := by decide +kernel
theorem dX1_init_18 : decode cX1_init 18 = .ok (.aload_n 0, 1) := by decide +kernel
theorem dX1_init_19 : decode cX1_init 19 = .ok (.new 9, 3) := by decide +kernel
theorem dX1_init_22 : decode cX1_init 22 = .ok (.dup, 1) := by decide +kernel
theorem dX1_init_23 : decode cX1_init 23 = .ok (.bipush 8, 2) := by decide +kernel
theorem dX1_init_25 : decode cX1_init 25 = .ok (.iconst 1, 1) := by decide +kernel
theorem dX1_init_26 : decode cX1_init 26 = .ok (.invokespecial 13, 3) := by decide +kernel
theorem dX1_init_29 : decode cX1_init 29 = .ok (.putfield 20, 3) := by decide +kernel
theorem dX1_init_32 : decode cX1_init 32 = .ok (.aload_n 0, 1) := by decide +kernel
theorem dX1_init_33 : decode cX1_init 33 = .ok (.new 9, 3) := by decide +kernel
theorem dX1_init_36 : decode cX1_init 36 = .ok (.dup, 1) := by decide +kernel
theorem dX1_init_37 : decode cX1_init 37 = .ok (.bipush 12, 2) := by decide +kernel
theorem dX1_init_39 : decode cX1_init 39 = .ok (.iconst 1, 1) := by decide +kernel
theorem dX1_init_40 : decode cX1_init 40 = .ok (.invokespecial 13, 3) := by decide +kernel
theorem dX1_init_43 : decode cX1_init 43 = .ok (.putfield 23, 3) := by decide +kernel
theorem dX1_init_46 : decode cX1_init 46 = .ok (.aload_n 0, 1) := by decide +kernel
theorem dX1_init_47 : decode cX1_init 47 = .ok (.new 9, 3) := by decide +kernel
theorem dX1_init_50 : decode cX1_init 50 = .ok (.dup, 1) := by decide +kernel
theorem dX1_init_51 : decode cX1_init 51 = .ok (.iconst 4, 1) := by decide +kernel
theorem dX1_init_52 : decode cX1_init 52 = .ok (.bipush 6, 2) := by decide +kernel
theorem dX1_init_54 : decode cX1_init 54 = .ok (.invokespecial 13, 3) := by decide +kernel
theorem dX1_init_57 : decode cX1_init 57 = .ok (.putfield 26, 3) := by decide +kernel
theorem dX1_init_60 : decode cX1_init 60 = .ok (.aload_n 0, 1) := by decide +kernel
theorem dX1_init_61 : decode cX1_init 61 = .ok (.new 9, 3) := by decide +kernel
theorem dX1_init_64 : decode cX1_init 64 = .ok (.dup, 1) := by decide +kernel
theorem dX1_init_65 : decode cX1_init 65 = .ok (.bipush 8, 2) := by decide +kernel
theorem dX1_init_67 : decode cX1_init 67 = .ok (.iconst 3, 1) := by decide +kernel
theorem dX1_init_68 : decode cX1_init 68 = .ok (.invokespecial 13, 3) := by decide +kernel
theorem dX1_init_71 : decode cX1_init 71 = .ok (.putfield 29, 3) := by decide +kernel
theorem dX1_init_74 : decode cX1_init 74 = .ok (.aload_n 0, 1) := by decide +kernel
theorem dX1_init_75 : decode cX1_init 75 = .ok (.new 9, 3) := by decide +kernel
theorem dX1_init_78 : decode cX1_init 78 = .ok (.dup, 1) := by decide +kernel
theorem dX1_init_79 : decode cX1_init 79 = .ok (.bipush 8, 2) := by decide +kernel
theorem dX1_init_81 : decode cX1_init 81 = .ok (.iconst 3, 1) := by decide +kernel
theorem dX1_init_82 : decode cX1_init 82 = .ok (.invokespecial 13, 3) := by decide +kernel
theorem dX1_init_85 : decode cX1_init 85 = .ok (.putfield 32, 3) := by decide +kernel
theorem dX1_init_88 : decode cX1_init 88 = .ok (.aload_n 0, 1) := by decide +kernel
theorem dX1_init_89 : decode cX1_init 89 = .ok (.new 9, 3) := by decide +kernel
theorem dX1_init_92 : decode cX1_init 92 = .ok (.dup, 1) := by decide +kernel
theorem dX1_init_93 : decode cX1_init 93 = .ok (.bipush 48, 2) := by decide +kernel
theorem dX1_init_95 : decode cX1_init 95 = .ok (.iconst 4, 1) := by decide +kernel
theorem dX1_init_96 : decode cX1_init 96 = .ok (.invokespecial 13, 3) := by decide +kernel
theorem dX1_init_99 : decode cX1_init 99 = .ok (.putfield 35, 3) := by decide +kernel
theorem dX1_init_102 : decode cX1_init 102 = .ok (.aload_n 0, 1) := by decide +kernel
theorem dX1_init_103 : decode cX1_init 103 = .ok (.new 9, 3) := by decide +kernel
theorem dX1_init_106 : decode cX1_init 106 = .ok (.dup, 1) := by decide +kernel
theorem dX1_init_107 : decode cX1_init 107 = .ok (.bipush 48, 2) := by decide +kernel
theorem dX1_init_109 : decode cX1_init 109 = .ok (.iconst 1, 1) := by decide +kernel
theorem dX1_init_110 : decode cX1_init 110 = .ok (.invokespecial 13, 3) := by decide +kernel
theorem dX1_init_113 : decode cX1_init 113 = .ok (.putfield 38, 3) := by decide +kernel
theorem dX1_init_116 : decode cX1_init 116 = .ok (.aload_n 0, 1) := by decide +kernel
theorem dX1_init_117 : decode cX1_init 117 = .ok (.invokevirtual 41, 3) := by decide +kernel
theorem dX1_init_120 : decode cX1_init 120 = .ok (.return_, 1) := by decide +kernel
theorem dX1_clear_0 : decode cX1_clear 0 = .ok (.aload_n 0, 1) := by decide +kernel
theorem dX1_clear_1 : decode cX1_clear 1 = .ok (.getfield 16, 3) := by decide +kernel
theorem dX1_clear_4 : decode cX1_clear 4 = .ok (.iconst 0, 1) := by decide +kernel
theorem dX1_clear_5 : decode cX1_clear 5 = .ok (.invokevirtual 44, 3) := by decide +kernel
theorem dX1_clear_8 : decode cX1_clear 8 = .ok (.aload_n 0, 1) := by decide +kernel
theorem dX1_clear_9 : decode cX1_clear 9 = .ok (.getfield 20, 3) := by decide +kernel
theorem dX1_clear_12 : decode cX1_clear 12 = .ok (.iconst 0, 1) := by decide +kernel
theorem dX1_clear_13 : decode cX1_clear 13 = .ok (.invokevirtual 44, 3) := by decide +kernel
theorem dX1_clear_16 : decode cX1_clear 16 = .ok (.aload_n 0, 1) := by decide +kernel
theorem dX1_clear_17 : decode cX1_clear 17 = .ok (.getfield 23, 3) := by decide +kernel
theorem dX1_clear_20 : decode cX1_clear 20 = .ok (.iconst 0, 1) := by decide +kernel
theorem dX1_clear_21 : decode cX1_clear 21 = .ok (.invokevirtual 44, 3) := by decide +kernel
theorem dX1_clear_24 : decode cX1_clear 24 = .ok (.aload_n 0, 1) := by decide +kernel
theorem dX1_clear_25 : decode cX1_clear 25 = .ok (.getfield 26, 3) := by decide +kernel
theorem dX1_clear_28 : decode cX1_clear 28 = .ok (.iconst 0, 1) := by decide +kernel
theorem dX1_clear_29 : decode cX1_clear 29 = .ok (.invokevirtual 44, 3) := by decide +kernel
theorem dX1_clear_32 : decode cX1_clear 32 = .ok (.aload_n 0, 1) := by decide +kernel
theorem dX1_clear_33 : decode cX1_clear 33 = .ok (.getfield 29, 3) := by decide +kernel
theorem dX1_clear_36 : decode cX1_clear 36 = .ok (.iconst 0, 1) := by decide +kernel
theorem dX1_clear_37 : decode cX1_clear 37 = .ok (.invokevirtual 44, 3) := by decide +kernel
theorem dX1_clear_40 : decode cX1_clear 40 = .ok (.aload_n 0, 1) := by decide +kernel
theorem dX1_clear_41 : decode cX1_clear 41 = .ok (.getfield 32, 3) := by decide +kernel
theorem dX1_clear_44 : decode cX1_clear 44 = .ok (.iconst 0, 1) := by decide +kernel
theorem dX1_clear_45 : decode cX1_clear 45 = .ok (.invokevirtual 44, 3) := by decide +kernel
theorem dX1_clear_48 : decode cX1_clear 48 = .ok (.aload_n 0, 1) := by decide +kernel
theorem dX1_clear_49 : decode cX1_clear 49 = .ok (.iconst 0, 1) := by decide +kernel
theorem dX1_clear_50 : decode cX1_clear 50 = .ok (.putfield 48, 3) := by decide +kernel
theorem dX1_clear_53 : decode cX1_clear 53 = .ok (.aload_n 0, 1) := by decide +kernel
theorem dX1_clear_54 : decode cX1_clear 54 = .ok (.iconst 0, 1) := by decide +kernel
theorem dX1_clear_55 : decode cX1_clear 55 = .ok (.putfield 52, 3) := by decide +kernel
theorem dX1_clear_58 : decode cX1_clear 58 = .ok (.aload_n 0, 1) := by decide +kernel
theorem dX1_clear_59 : decode cX1_clear 59 = .ok (.iconst 0, 1) := by decide +kernel
theorem dX1_clear_60 : decode cX1_clear 60 = .ok (.putfield 55, 3) := by decide +kernel
theorem dX1_clear_63 : decode cX1_clear 63 = .ok (.aload_n 0, 1) := by decide +kernel
theorem dX1_clear_64 : decode cX1_clear 64 = .ok (.iconst 0, 1) := by decide +kernel
theorem dX1_clear_65 : decode cX1_clear 65 = .ok (.putfield 59, 3) := by decide +kernel
theorem dX1_clear_68 : decode cX1_clear 68 = .ok (.aload_n 0, 1) := by decide +kernel
theorem dX1_clear_69 : decode cX1_clear 69 = .ok (.bipush (-2), 2) := by decide +kernel
theorem dX1_clear_71 : decode cX1_clear 71 = .ok (.putfield 62, 3) := by decide +kernel
theorem dX1_clear_74 : decode cX1_clear 74 = .ok (.aload_n 0, 1) := by decide +kernel
theorem dX1_clear_75 : decode cX1_clear 75 = .ok (.iconst 1, 1) := by decide +kernel
theorem dX1_clear_76 : decode cX1_clear 76 = .ok (.putfield 65, 3) := by decide +kernel
theorem dX1_clear_79 : decode cX1_clear 79 = .ok (.aload_n 0, 1) := by decide +kernel
theorem dX1_clear_80 : decode cX1_clear 80 = .ok (.bipush (-2), 2) := by decide +kernel
theorem dX1_clear_82 : decode cX1_clear 82 = .ok (.putfield 68, 3) := by decide +kernel
theorem dX1_clear_85 : decode cX1_clear 85 = .ok (.aload_n 0, 1) := by decide +kernel
theorem dX1_clear_86 : decode cX1_clear 86 = .ok (.iconst (-1), 1) := by decide +kernel
theorem dX1_clear_87 : decode cX1_clear 87 = .ok (.putfield 71, 3) := by decide +kernel
theorem dX1_clear_90 : decode cX1_clear 90 = .ok (.aload_n 0, 1) := by decide +kernel
theorem dX1_clear_91 : decode cX1_clear 91 = .ok (.iconst (-1), 1) := by decide +kernel
theorem dX1_clear_92 : decode cX1_clear 92 = .ok (.putfield 74, 3) := by decide +kernel
theorem dX1_clear_95 : decode cX1_clear 95 = .ok (.aload_n 0, 1) := by decide +kernel
theorem dX1_clear_96 : decode cX1_clear 96 = .ok (.iconst 0, 1) := by decide +kernel
theorem dX1_clear_97 : decode cX1_clear 97 = .ok (.putfield 77, 3) := by decide +kernel
theorem dX1_clear_100 : decode cX1_clear 100 = .ok (.return_, 1) := by decide +kernel
theorem dX1_copy_0 : decode cX1_copy 0 = .ok (.aload_n 1, 1) := by decide +kernel
theorem dX1_copy_1 : decode cX1_copy 1 = .ok (.ifnonnull 4, 3) := by decide +kernel
theorem dX1_copy_4 : decode cX1_copy 4 = .ok (.return_, 1) := by decide +kernel
theorem dX1_copy_5 : decode cX1_copy 5 = .ok (.aload_n 0, 1) := by decide +kernel
theorem dX1_copy_6 : decode cX1_copy 6 = .ok (.getfield 16, 3) := by decide +kernel
theorem dX1_copy_9 : decode cX1_copy 9 = .ok (.aload_n 1, 1) := by decide +kernel
theorem dX1_copy_10 : decode cX1_copy 10 = .ok (.getfield 16, 3) := by decide +kernel
theorem dX1_copy_13 : decode cX1_copy 13 = .ok (.invokevirtual 80, 3) := by decide +kernel
theorem dX1_copy_16 : decode cX1_copy 16 = .ok (.aload_n 0, 1) := by decide +kernel
theorem dX1_copy_17 : decode cX1_copy 17 = .ok (.getfield 20, 3) := by decide +kernel
theorem dX1_copy_20 : decode cX1_copy 20 = .ok (.aload_n 1, 1) := by decide +kernel
theorem dX1_copy_21 : decode cX1_copy 21 = .ok (.getfield 20, 3) := by decide +kernel
theorem dX1_copy_24 : decode cX1_copy 24 = .ok (.invokevirtual 80, 3) := by decide +kernel
theorem dX1_copy_27 : decode cX1_copy 27 = .ok (.aload_n 0, 1) := by decide +kernel
theorem dX1_copy_28 : decode cX1_copy 28 = .ok (.getfield 23, 3) := by decide +kernel
theorem dX1_copy_31 : decode cX1_copy 31 = .ok (.aload_n 1, 1) := by decide +kernel
theorem dX1_copy_32 : decode cX1_copy 32 = .ok (.getfield 23, 3) := by decide +kernel
theorem dX1_copy_35 : decode cX1_copy 35 = .ok (.invokevirtual 80, 3) := by decide +kernel
theorem dX1_copy_38 : decode cX1_copy 38 = .ok (.aload_n 0, 1) := by decide +kernel
theorem dX1_copy_39 : decode cX1_copy 39 = .ok (.getfield 26, 3) := by decide +kernel
theorem dX1_copy_42 : decode cX1_copy 42 = .ok (.aload_n 1, 1) := by decide +kernel
theorem dX1_copy_43 : decode cX1_copy 43 = .ok (.getfield 26, 3) := by decide +kernel
theorem dX1_copy_46 : decode cX1_copy 46 = .ok (.invokevirtual 80, 3) := by decide +kernel
theorem dX1_copy_49 : decode cX1_copy 49 = .ok (.aload_n 0, 1) := by decide +kernel
theorem dX1_copy_50 : decode cX1_copy 50 = .ok (.getfield 29, 3) := by decide +kernel
theorem dX1_copy_53 : decode cX1_copy 53 = .ok (.aload_n 1, 1) := by decide +kernel
theorem dX1_copy_54 : decode cX1_copy 54 = .ok (.getfield 29, 3) := by decide +kernel
theorem dX1_copy_57 : decode cX1_copy 57 = .ok (.invokevirtual 80, 3) := by decide +kernel
theorem dX1_copy_60 : decode cX1_copy 60 = .ok (.aload_n 0, 1) := by decide +kernel
theorem dX1_copy_61 : decode cX1_copy 61 = .ok (.getfield 32, 3) := by decide +kernel
theorem dX1_copy_64 : decode cX1_copy 64 = .ok (.aload_n 1, 1) := by decide +kernel
theorem dX1_copy_65 : decode cX1_copy 65 = .ok (.getfield 32, 3) := by decide +kernel
theorem dX1_copy_68 : decode cX1_copy 68 = .ok (.invokevirtual 80, 3) := by decide +kernel
theorem dX1_copy_71 : decode cX1_copy 71 = .ok (.aload_n 0, 1) := by decide +kernel
theorem dX1_copy_72 : decode cX1_copy 72 = .ok (.aload_n 1, 1) := by decide +kernel
theorem dX1_copy_73 : decode cX1_copy 73 = .ok (.getfield 48, 3) := by decide +kernel
theorem dX1_copy_76 : decode cX1_copy 76 = .ok (.putfield 48, 3) := by decide +kernel
theorem dX1_copy_79 : decode cX1_copy 79 = .ok (.aload_n 0, 1) := by decide +kernel
theorem dX1_copy_80 : decode cX1_copy 80 = .ok (.aload_n 1, 1) := by decide +kernel
theorem dX1_copy_81 : decode cX1_copy 81 = .ok (.getfield 52, 3) := by decide +kernel
theorem dX1_copy_84 : decode cX1_copy 84 = .ok (.putfield 52, 3) := by decide +kernel
theorem dX1_copy_87 : decode cX1_copy 87 = .ok (.aload_n 0, 1) := by decide +kernel
theorem dX1_copy_88 : decode cX1_copy 88 = .ok (.aload_n 1, 1) := by decide +kernel
theorem dX1_copy_89 : decode cX1_copy 89 = .ok (.getfield 55, 3) := by decide +kernel
theorem dX1_copy_92 : decode cX1_copy 92 = .ok (.putfield 55, 3) := by decide +kernel
theorem dX1_copy_95 : decode cX1_copy 95 = .ok (.aload_n 0, 1) := by decide +kernel
theorem dX1_copy_96 : decode cX1_copy 96 = .ok (.aload_n 1, 1) := by decide +kernel
theorem dX1_copy_97 : decode cX1_copy 97 = .ok (.getfield 59, 3) := by decide +kernel
theorem dX1_copy_100 : decode cX1_copy 100 = .ok (.putfield 59, 3) := by decide +kernel
theorem dX1_copy_103 : decode cX1_copy 103 = .ok (.aload_n 0, 1) := by decide +kernel
theorem dX1_copy_104 : decode cX1_copy 104 = .ok (.aload_n 1, 1) := by decide +kernel
theorem dX1_copy_105 : decode cX1_copy 105 = .ok (.getfield 62, 3) := by decide +kernel
theorem dX1_copy_108 : decode cX1_copy 108 = .ok (.putfield 62, 3) := by decide +kernel
theorem dX1_copy_111 : decode cX1_copy 111 = .ok (.aload_n 0, 1) := by decide +kernel
theorem dX1_copy_112 : decode cX1_copy 112 = .ok (.aload_n 1, 1) := by decide +kernel
theorem dX1_copy_113 : decode cX1_copy 113 = .ok (.getfield 65, 3) := by decide +kernel
theorem dX1_copy_116 : decode cX1_copy 116 = .ok (.putfield 65, 3) := by decide +kernel
theorem dX1_copy_119 : decode cX1_copy 119 = .ok (.aload_n 0, 1) := by decide +kernel
theorem dX1_copy_120 : decode cX1_copy 120 = .ok (.aload_n 1, 1) := by decide +kernel
theorem dX1_copy_121 : decode cX1_copy 121 = .ok (.getfield 68, 3) := by decide +kernel
theorem dX1_copy_124 : decode cX1_copy 124 = .ok (.putfield 68, 3) := by decide +kernel
theorem dX1_copy_127 : decode cX1_copy 127 = .ok (.aload_n 0, 1) := by decide +kernel
theorem dX1_copy_128 : decode cX1_copy 128 = .ok (.aload_n 1, 1) := by decide +kernel
theorem dX1_copy_129 : decode cX1_copy 129 = .ok (.getfield 71, 3) := by decide +kernel
theorem dX1_copy_132 : decode cX1_copy 132 = .ok (.putfield 71, 3) := by decide +kernel
theorem dX1_copy_135 : decode cX1_copy 135 = .ok (.aload_n 0, 1) := by decide +kernel
theorem dX1_copy_136 : decode cX1_copy 136 = .ok (.aload_n 1, 1) := by decide +kernel
theorem dX1_copy_137 : decode cX1_copy 137 = .ok (.getfield 74, 3) := by decide +kernel
theorem dX1_copy_140 : decode cX1_copy 140 = .ok (.putfield 74, 3) := by decide +kernel
theorem dX1_copy_143 : decode cX1_copy 143 = .ok (.aload_n 0, 1) := by decide +kernel
theorem dX1_copy_144 : decode cX1_copy 144 = .ok (.aload_n 1, 1) := by decide +kernel
theorem dX1_copy_145 : decode cX1_copy 145 = .ok (.getfield 77, 3) := by decide +kernel
theorem dX1_copy_148 : decode cX1_copy 148 = .ok (.putfield 77, 3) := by decide +kernel
theorem dX1_copy_151 : decode cX1_copy 151 = .ok (.return_, 1) := by decide +kernel
theorem dX1_hasRows_0 : decode cX1_hasRows 0 = .ok (.aload_n 0, 1) := by decide +kernel
theorem dX1_hasRows_1 : decode cX1_hasRows 1 = .ok (.getfield 48, 3) := by decide +kernel
theorem dX1_hasRows_4 : decode cX1_hasRows 4 = .ok (.ifCond .le 26, 3) := by decide +kernel
theorem dX1_hasRows_7 : decode cX1_hasRows 7 = .ok (.aload_n 0, 1) := by decide +kernel
theorem dX1_hasRows_8 : decode cX1_hasRows 8 = .ok (.getfield 16, 3) := by decide +kernel
theorem dX1_hasRows_11 : decode cX1_hasRows 11 = .ok (.invokevirtual 84, 3) := by decide +kernel
theorem dX1_hasRows_14 : decode cX1_hasRows 14 = .ok (.aload_n 0, 1) := by decide +kernel
theorem dX1_hasRows_15 : decode cX1_hasRows 15 = .ok (.getfield 48, 3) := by decide +kernel
theorem dX1_hasRows_18 : decode cX1_hasRows 18 = .ok (.aload_n 0, 1) := by decide +kernel
theorem dX1_hasRows_19 : decode cX1_hasRows 19 = .ok (.getfield 52, 3) := by decide +kernel
theorem dX1_hasRows_22 : decode cX1_hasRows 22 = .ok (.imul, 1) := by decide +kernel
theorem dX1_hasRows_23 : decode cX1_hasRows 23 = .ok (.if_icmp .lt 7, 3) := by decide +kernel
theorem dX1_hasRows_26 : decode cX1_hasRows 26 = .ok (.iconst 1, 1) := by decide +kernel
theorem dX1_hasRows_27 : decode cX1_hasRows 27 = .ok (.goto 4, 3) := by decide +kernel
theorem dX1_hasRows_30 : decode cX1_hasRows 30 = .ok (.iconst 0, 1) := by decide +kernel
theorem dX1_hasRows_31 : decode cX1_hasRows 31 = .ok (.ireturn, 1) := by decide +kernel
theorem dX1_cellAt_0 : decode cX1_cellAt 0 = .ok (.iload_n 1, 1) := by decide +kernel
theorem dX1_cellAt_1 : decode cX1_cellAt 1 = .ok (.ifCond .lt 34, 3) := by decide +kernel
theorem dX1_cellAt_4 : decode cX1_cellAt 4 = .ok (.iload_n 1, 1) := by decide +kernel
theorem dX1_cellAt_5 : decode cX1_cellAt 5 = .ok (.aload_n 0, 1) := by decide +kernel
theorem dX1_cellAt_6 : decode cX1_cellAt 6 = .ok (.getfield 48, 3) := by decide +kernel
theorem dX1_cellAt_9 : decode cX1_cellAt 9 = .ok (.if_icmp .ge 26, 3) := by decide +kernel
theorem dX1_cellAt_12 : decode cX1_cellAt 12 = .ok (.iload_n 2, 1) := by decide +kernel
theorem dX1_cellAt_13 : decode cX1_cellAt 13 = .ok (.ifCond .lt 22, 3) := by decide +kernel
theorem dX1_cellAt_16 : decode cX1_cellAt 16 = .ok (.iload_n 2, 1) := by decide +kernel
theorem dX1_cellAt_17 : decode cX1_cellAt 17 = .ok (.aload_n 0, 1) := by decide +kernel
theorem dX1_cellAt_18 : decode cX1_cellAt 18 = .ok (.getfield 52, 3) := by decide +kernel
theorem dX1_cellAt_21 : decode cX1_cellAt 21 = .ok (.if_icmp .ge 14, 3) := by decide +kernel
theorem dX1_cellAt_24 : decode cX1_cellAt 24 = .ok (.iload_n 2, 1) := by decide +kernel
theorem dX1_cellAt_25 : decode cX1_cellAt 25 = .ok (.aload_n 0, 1) := by decide +kernel
theorem dX1_cellAt_26 : decode cX1_cellAt 26 = .ok (.getfield 48, 3) := by decide +kernel
theorem dX1_cellAt_29 : decode cX1_cellAt 29 = .ok (.imul, 1) := by decide +kernel
theorem dX1_cellAt_30 : decode cX1_cellAt 30 = .ok (.iload_n 1, 1) := by decide +kernel
theorem dX1_cellAt_31 : decode cX1_cellAt 31 = .ok (.iadd, 1) := by decide +kernel
theorem dX1_cellAt_32 : decode cX1_cellAt 32 = .ok (.goto 4, 3) := by decide +kernel
theorem dX1_cellAt_35 : decode cX1_cellAt 35 = .ok (.iconst (-1), 1) := by decide +kernel
theorem dX1_cellAt_36 : decode cX1_cellAt 36 = .ok (.ireturn, 1) := by decide +kernel
theorem dX1_beside_0 : decode cX1_beside 0 = .ok (.aload_n 0, 1) := by decide +kernel
theorem dX1_beside_1 : decode cX1_beside 1 = .ok (.getfield 48, 3) := by decide +kernel
theorem dX1_beside_4 : decode cX1_beside 4 = .ok (.iconst 1, 1) := by decide +kernel
theorem dX1_beside_5 : decode cX1_beside 5 = .ok (.if_icmp .lt 7, 3) := by decide +kernel
theorem dX1_beside_8 : decode cX1_beside 8 = .ok (.iload_n 1, 1) := by decide +kernel
theorem dX1_beside_9 : decode cX1_beside 9 = .ok (.ifCond .ge 5, 3) := by decide +kernel
theorem dX1_beside_12 : decode cX1_beside 12 = .ok (.iconst (-1), 1) := by decide +kernel
theorem dX1_beside_13 : decode cX1_beside 13 = .ok (.ireturn, 1) := by decide +kernel
theorem dX1_beside_14 : decode cX1_beside 14 = .ok (.iload_n 1, 1) := by decide +kernel
theorem dX1_beside_15 : decode cX1_beside 15 = .ok (.aload_n 0, 1) := by decide +kernel
theorem dX1_beside_16 : decode cX1_beside 16 = .ok (.getfield 48, 3) := by decide +kernel
theorem dX1_beside_19 : decode cX1_beside 19 = .ok (.irem, 1) := by decide +kernel
theorem dX1_beside_20 : decode cX1_beside 20 = .ok (.istore_n 3, 1) := by decide +kernel
theorem dX1_beside_21 : decode cX1_beside 21 = .ok (.iload_n 1, 1) := by decide +kernel
theorem dX1_beside_22 : decode cX1_beside 22 = .ok (.aload_n 0, 1) := by decide +kernel
theorem dX1_beside_23 : decode cX1_beside 23 = .ok (.getfield 48, 3) := by decide +kernel
theorem dX1_beside_26 : decode cX1_beside 26 = .ok (.idiv, 1) := by decide +kernel
theorem dX1_beside_27 : decode cX1_beside 27 = .ok (.istore 4, 2) := by decide +kernel
theorem dX1_beside_29 : decode cX1_beside 29 = .ok (.iload_n 2, 1) := by decide +kernel
theorem dX1_beside_30 : decode cX1_beside 30 = .ok (.tableswitch 56 0 2 #[26, 36, 46], 26) := by decide +kernel
theorem dX1_beside_56 : decode cX1_beside 56 = .ok (.aload_n 0, 1) := by decide +kernel
theorem dX1_beside_57 : decode cX1_beside 57 = .ok (.iload_n 3, 1) := by decide +kernel
theorem dX1_beside_58 : decode cX1_beside 58 = .ok (.iload 4, 2) := by decide +kernel
theorem dX1_beside_60 : decode cX1_beside 60 = .ok (.iconst 1, 1) := by decide +kernel
theorem dX1_beside_61 : decode cX1_beside 61 = .ok (.isub, 1) := by decide +kernel
theorem dX1_beside_62 : decode cX1_beside 62 = .ok (.invokevirtual 88, 3) := by decide +kernel
theorem dX1_beside_65 : decode cX1_beside 65 = .ok (.ireturn, 1) := by decide +kernel
theorem dX1_beside_66 : decode cX1_beside 66 = .ok (.aload_n 0, 1) := by decide +kernel
theorem dX1_beside_67 : decode cX1_beside 67 = .ok (.iload_n 3, 1) := by decide +kernel
theorem dX1_beside_68 : decode cX1_beside 68 = .ok (.iconst 1, 1) := by decide +kernel
theorem dX1_beside_69 : decode cX1_beside 69 = .ok (.iadd, 1) := by decide +kernel
theorem dX1_beside_70 : decode cX1_beside 70 = .ok (.iload 4, 2) := by decide +kernel
theorem dX1_beside_72 : decode cX1_beside 72 = .ok (.invokevirtual 88, 3) := by decide +kernel
theorem dX1_beside_75 : decode cX1_beside 75 = .ok (.ireturn, 1) := by decide +kernel
theorem dX1_beside_76 : decode cX1_beside 76 = .ok (.aload_n 0, 1) := by decide +kernel
theorem dX1_beside_77 : decode cX1_beside 77 = .ok (.iload_n 3, 1) := by decide +kernel
theorem dX1_beside_78 : decode cX1_beside 78 = .ok (.iload 4, 2) := by decide +kernel
theorem dX1_beside_80 : decode cX1_beside 80 = .ok (.iconst 1, 1) := by decide +kernel
theorem dX1_beside_81 : decode cX1_beside 81 = .ok (.iadd, 1) := by decide +kernel
theorem dX1_beside_82 : decode cX1_beside 82 = .ok (.invokevirtual 88, 3) := by decide +kernel
theorem dX1_beside_85 : decode cX1_beside 85 = .ok (.ireturn, 1) := by decide +kernel
theorem dX1_beside_86 : decode cX1_beside 86 = .ok (.aload_n 0, 1) := by decide +kernel
theorem dX1_beside_87 : decode cX1_beside 87 = .ok (.iload_n 3, 1) := by decide +kernel
theorem dX1_beside_88 : decode cX1_beside 88 = .ok (.iconst 1, 1) := by decide +kernel
theorem dX1_beside_89 : decode cX1_beside 89 = .ok (.isub, 1) := by decide +kernel
theorem dX1_beside_90 : decode cX1_beside 90 = .ok (.iload 4, 2) := by decide +kernel
theorem dX1_beside_92 : decode cX1_beside 92 = .ok (.invokevirtual 88, 3) := by decide +kernel
theorem dX1_beside_95 : decode cX1_beside 95 = .ok (.ireturn, 1) := by decide +kernel
theorem dX1_isOpen_0 : decode cX1_isOpen 0 = .ok (.iload_n 1, 1) := by decide +kernel
theorem dX1_isOpen_1 : decode cX1_isOpen 1 = .ok (.ifCond .lt 31, 3) := by decide +kernel
theorem dX1_isOpen_4 : decode cX1_isOpen 4 = .ok (.iload_n 1, 1) := by decide +kernel
theorem dX1_isOpen_5 : decode cX1_isOpen 5 = .ok (.aload_n 0, 1) := by decide +kernel
theorem dX1_isOpen_6 : decode cX1_isOpen 6 = .ok (.getfield 16, 3) := by decide +kernel
theorem dX1_isOpen_9 : decode cX1_isOpen 9 = .ok (.invokevirtual 84, 3) := by decide +kernel
theorem dX1_isOpen_12 : decode cX1_isOpen 12 = .ok (.if_icmp .ge 20, 3) := by decide +kernel
theorem dX1_isOpen_15 : decode cX1_isOpen 15 = .ok (.aload_n 0, 1) := by decide +kernel
theorem dX1_isOpen_16 : decode cX1_isOpen 16 = .ok (.getfield 16, 3) := by decide +kernel
theorem dX1_isOpen_19 : decode cX1_isOpen 19 = .ok (.iload_n 1, 1) := by decide +kernel
theorem dX1_isOpen_20 : decode cX1_isOpen 20 = .ok (.iconst 0, 1) := by decide +kernel
theorem dX1_isOpen_21 : decode cX1_isOpen 21 = .ok (.invokevirtual 92, 3) := by decide +kernel
theorem dX1_isOpen_24 : decode cX1_isOpen 24 = .ok (.iconst 1, 1) := by decide +kernel
theorem dX1_isOpen_25 : decode cX1_isOpen 25 = .ok (.if_icmp .gt 7, 3) := by decide +kernel
theorem dX1_isOpen_28 : decode cX1_isOpen 28 = .ok (.iconst 1, 1) := by decide +kernel
theorem dX1_isOpen_29 : decode cX1_isOpen 29 = .ok (.goto 4, 3) := by decide +kernel
theorem dX1_isOpen_32 : decode cX1_isOpen 32 = .ok (.iconst 0, 1) := by decide +kernel
theorem dX1_isOpen_33 : decode cX1_isOpen 33 = .ok (.ireturn, 1) := by decide +kernel
theorem dX1_layOut_0 : decode cX1_layOut 0 = .ok (.aload_n 0, 1) := by decide +kernel
theorem dX1_layOut_1 : decode cX1_layOut 1 = .ok (.getfield 35, 3) := by decide +kernel
theorem dX1_layOut_4 : decode cX1_layOut 4 = .ok (.aload_n 0, 1) := by decide +kernel
theorem dX1_layOut_5 : decode cX1_layOut 5 = .ok (.getfield 16, 3) := by decide +kernel
theorem dX1_layOut_8 : decode cX1_layOut 8 = .ok (.invokevirtual 84, 3) := by decide +kernel
theorem dX1_layOut_11 : decode cX1_layOut 11 = .ok (.iconst (-1), 1) := by decide +kernel
theorem dX1_layOut_12 : decode cX1_layOut 12 = .ok (.invokevirtual 95, 3) := by decide +kernel
theorem dX1_layOut_15 : decode cX1_layOut 15 = .ok (.iconst 0, 1) := by decide +kernel
theorem dX1_layOut_16 : decode cX1_layOut 16 = .ok (.istore_n 1, 1) := by decide +kernel
theorem dX1_layOut_17 : decode cX1_layOut 17 = .ok (.iload_n 1, 1) := by decide +kernel
theorem dX1_layOut_18 : decode cX1_layOut 18 = .ok (.aload_n 0, 1) := by decide +kernel
theorem dX1_layOut_19 : decode cX1_layOut 19 = .ok (.getfield 16, 3) := by decide +kernel
theorem dX1_layOut_22 : decode cX1_layOut 22 = .ok (.invokevirtual 84, 3) := by decide +kernel
theorem dX1_layOut_25 : decode cX1_layOut 25 = .ok (.if_icmp .ge 51, 3) := by decide +kernel
theorem dX1_layOut_28 : decode cX1_layOut 28 = .ok (.iconst 0, 1) := by decide +kernel
theorem dX1_layOut_29 : decode cX1_layOut 29 = .ok (.istore_n 2, 1) := by decide +kernel
theorem dX1_layOut_30 : decode cX1_layOut 30 = .ok (.iload_n 2, 1) := by decide +kernel
theorem dX1_layOut_31 : decode cX1_layOut 31 = .ok (.iconst 4, 1) := by decide +kernel
theorem dX1_layOut_32 : decode cX1_layOut 32 = .ok (.if_icmp .ge 38, 3) := by decide +kernel
theorem dX1_layOut_35 : decode cX1_layOut 35 = .ok (.aload_n 0, 1) := by decide +kernel
theorem dX1_layOut_36 : decode cX1_layOut 36 = .ok (.iload_n 1, 1) := by decide +kernel
theorem dX1_layOut_37 : decode cX1_layOut 37 = .ok (.iload_n 2, 1) := by decide +kernel
theorem dX1_layOut_38 : decode cX1_layOut 38 = .ok (.invokevirtual 98, 3) := by decide +kernel
theorem dX1_layOut_41 : decode cX1_layOut 41 = .ok (.istore_n 3, 1) := by decide +kernel
theorem dX1_layOut_42 : decode cX1_layOut 42 = .ok (.aload_n 0, 1) := by decide +kernel
theorem dX1_layOut_43 : decode cX1_layOut 43 = .ok (.getfield 35, 3) := by decide +kernel
theorem dX1_layOut_46 : decode cX1_layOut 46 = .ok (.iload_n 1, 1) := by decide +kernel
theorem dX1_layOut_47 : decode cX1_layOut 47 = .ok (.iload_n 2, 1) := by decide +kernel
theorem dX1_layOut_48 : decode cX1_layOut 48 = .ok (.aload_n 0, 1) := by decide +kernel
theorem dX1_layOut_49 : decode cX1_layOut 49 = .ok (.iload_n 3, 1) := by decide +kernel
theorem dX1_layOut_50 : decode cX1_layOut 50 = .ok (.invokevirtual 101, 3) := by decide +kernel
theorem dX1_layOut_53 : decode cX1_layOut 53 = .ok (.ifCond .eq 7, 3) := by decide +kernel
theorem dX1_layOut_56 : decode cX1_layOut 56 = .ok (.iload_n 3, 1) := by decide +kernel
theorem dX1_layOut_57 : decode cX1_layOut 57 = .ok (.goto 4, 3) := by decide +kernel
theorem dX1_layOut_60 : decode cX1_layOut 60 = .ok (.iconst (-1), 1) := by decide +kernel
theorem dX1_layOut_61 : decode cX1_layOut 61 = .ok (.invokevirtual 105, 3) := by decide +kernel
theorem dX1_layOut_64 : decode cX1_layOut 64 = .ok (.iinc 2 1, 3) := by decide +kernel
theorem dX1_layOut_67 : decode cX1_layOut 67 = .ok (.goto (-37), 3) := by decide +kernel
theorem dX1_layOut_70 : decode cX1_layOut 70 = .ok (.iinc 1 1, 3) := by decide +kernel
theorem dX1_layOut_73 : decode cX1_layOut 73 = .ok (.goto (-56), 3) := by decide +kernel
theorem dX1_layOut_76 : decode cX1_layOut 76 = .ok (.aload_n 0, 1) := by decide +kernel
theorem dX1_layOut_77 : decode cX1_layOut 77 = .ok (.getfield 38, 3) := by decide +kernel
theorem dX1_layOut_80 : decode cX1_layOut 80 = .ok (.aload_n 0, 1) := by decide +kernel
theorem dX1_layOut_81 : decode cX1_layOut 81 = .ok (.getfield 16, 3) := by decide +kernel
theorem dX1_layOut_84 : decode cX1_layOut 84 = .ok (.invokevirtual 84, 3) := by decide +kernel
theorem dX1_layOut_87 : decode cX1_layOut 87 = .ok (.iconst 0, 1) := by decide +kernel
theorem dX1_layOut_88 : decode cX1_layOut 88 = .ok (.invokevirtual 95, 3) := by decide +kernel
theorem dX1_layOut_91 : decode cX1_layOut 91 = .ok (.aload_n 0, 1) := by decide +kernel
theorem dX1_layOut_92 : decode cX1_layOut 92 = .ok (.aload_n 0, 1) := by decide +kernel
theorem dX1_layOut_93 : decode cX1_layOut 93 = .ok (.getfield 68, 3) := by decide +kernel
theorem dX1_layOut_96 : decode cX1_layOut 96 = .ok (.aload_n 0, 1) := by decide +kernel
theorem dX1_layOut_97 : decode cX1_layOut 97 = .ok (.getfield 38, 3) := by decide +kernel
theorem dX1_layOut_100 : decode cX1_layOut 100 = .ok (.invokevirtual 109, 3) := by decide +kernel
theorem dX1_layOut_103 : decode cX1_layOut 103 = .ok (.return_, 1) := by decide +kernel
theorem dX1_spread_0 : decode cX1_spread 0 = .ok (.iconst 0, 1) := by decide +kernel
theorem dX1_spread_1 : decode cX1_spread 1 = .ok (.istore_n 3, 1) := by decide +kernel
theorem dX1_spread_2 : decode cX1_spread 2 = .ok (.iload_n 3, 1) := by decide +kernel
theorem dX1_spread_3 : decode cX1_spread 3 = .ok (.aload_n 0, 1) := by decide +kernel
theorem dX1_spread_4 : decode cX1_spread 4 = .ok (.getfield 16, 3) := by decide +kernel
theorem dX1_spread_7 : decode cX1_spread 7 = .ok (.invokevirtual 84, 3) := by decide +kernel
theorem dX1_spread_10 : decode cX1_spread 10 = .ok (.if_icmp .ge 30, 3) := by decide +kernel
theorem dX1_spread_13 : decode cX1_spread 13 = .ok (.aload_n 2, 1) := by decide +kernel
theorem dX1_spread_14 : decode cX1_spread 14 = .ok (.iload_n 3, 1) := by decide +kernel
theorem dX1_spread_15 : decode cX1_spread 15 = .ok (.iconst 0, 1) := by decide +kernel
theorem dX1_spread_16 : decode cX1_spread 16 = .ok (.aload_n 2, 1) := by decide +kernel
theorem dX1_spread_17 : decode cX1_spread 17 = .ok (.iload_n 3, 1) := by decide +kernel
theorem dX1_spread_18 : decode cX1_spread 18 = .ok (.iconst 0, 1) := by decide +kernel
theorem dX1_spread_19 : decode cX1_spread 19 = .ok (.invokevirtual 92, 3) := by decide +kernel
theorem dX1_spread_22 : decode cX1_spread 22 = .ok (.ifCond .eq 8, 3) := by decide +kernel
theorem dX1_spread_25 : decode cX1_spread 25 = .ok (.bipush (-2), 2) := by decide +kernel
theorem dX1_spread_27 : decode cX1_spread 27 = .ok (.goto 4, 3) := by decide +kernel
theorem dX1_spread_30 : decode cX1_spread 30 = .ok (.iconst (-1), 1) := by decide +kernel
theorem dX1_spread_31 : decode cX1_spread 31 = .ok (.invokevirtual 105, 3) := by decide +kernel
theorem dX1_spread_34 : decode cX1_spread 34 = .ok (.iinc 3 1, 3) := by decide +kernel
theorem dX1_spread_37 : decode cX1_spread 37 = .ok (.goto (-35), 3) := by decide +kernel
theorem dX1_spread_40 : decode cX1_spread 40 = .ok (.aload_n 0, 1) := by decide +kernel
theorem dX1_spread_41 : decode cX1_spread 41 = .ok (.iload_n 1, 1) := by decide +kernel
theorem dX1_spread_42 : decode cX1_spread 42 = .ok (.invokevirtual 101, 3) := by decide +kernel
theorem dX1_spread_45 : decode cX1_spread 45 = .ok (.ifCond .ne 4, 3) := by decide +kernel
theorem dX1_spread_48 : decode cX1_spread 48 = .ok (.return_, 1) := by decide +kernel
theorem dX1_spread_49 : decode cX1_spread 49 = .ok (.aload_n 2, 1) := by decide +kernel
theorem dX1_spread_50 : decode cX1_spread 50 = .ok (.iload_n 1, 1) := by decide +kernel
theorem dX1_spread_51 : decode cX1_spread 51 = .ok (.iconst 0, 1) := by decide +kernel
theorem dX1_spread_52 : decode cX1_spread 52 = .ok (.iconst 0, 1) := by decide +kernel
theorem dX1_spread_53 : decode cX1_spread 53 = .ok (.invokevirtual 105, 3) := by decide +kernel
theorem dX1_spread_56 : decode cX1_spread 56 = .ok (.iconst 0, 1) := by decide +kernel
theorem dX1_spread_57 : decode cX1_spread 57 = .ok (.istore_n 3, 1) := by decide +kernel
theorem dX1_spread_58 : decode cX1_spread 58 = .ok (.iload_n 3, 1) := by decide +kernel
theorem dX1_spread_59 : decode cX1_spread 59 = .ok (.aload_n 0, 1) := by decide +kernel
theorem dX1_spread_60 : decode cX1_spread 60 = .ok (.getfield 16, 3) := by decide +kernel
theorem dX1_spread_63 : decode cX1_spread 63 = .ok (.invokevirtual 84, 3) := by decide +kernel
theorem dX1_spread_66 : decode cX1_spread 66 = .ok (.if_icmp .ge 51, 3) := by decide +kernel
theorem dX1_spread_69 : decode cX1_spread 69 = .ok (.iconst 0, 1) := by decide +kernel
theorem dX1_spread_70 : decode cX1_spread 70 = .ok (.istore 4, 2) := by decide +kernel
theorem dX1_spread_72 : decode cX1_spread 72 = .ok (.iload 4, 2) := by decide +kernel
theorem dX1_spread_74 : decode cX1_spread 74 = .ok (.aload_n 0, 1) := by decide +kernel
theorem dX1_spread_75 : decode cX1_spread 75 = .ok (.getfield 16, 3) := by decide +kernel
theorem dX1_spread_78 : decode cX1_spread 78 = .ok (.invokevirtual 84, 3) := by decide +kernel
theorem dX1_spread_81 : decode cX1_spread 81 = .ok (.if_icmp .ge 30, 3) := by decide +kernel
theorem dX1_spread_84 : decode cX1_spread 84 = .ok (.aload_n 2, 1) := by decide +kernel
theorem dX1_spread_85 : decode cX1_spread 85 = .ok (.iload 4, 2) := by decide +kernel
theorem dX1_spread_87 : decode cX1_spread 87 = .ok (.iconst 0, 1) := by decide +kernel
theorem dX1_spread_88 : decode cX1_spread 88 = .ok (.invokevirtual 92, 3) := by decide +kernel
theorem dX1_spread_91 : decode cX1_spread 91 = .ok (.iload_n 3, 1) := by decide +kernel
theorem dX1_spread_92 : decode cX1_spread 92 = .ok (.if_icmp .ne 13, 3) := by decide +kernel
theorem dX1_spread_95 : decode cX1_spread 95 = .ok (.aload_n 0, 1) := by decide +kernel
theorem dX1_spread_96 : decode cX1_spread 96 = .ok (.iload 4, 2) := by decide +kernel
theorem dX1_spread_98 : decode cX1_spread 98 = .ok (.iload_n 3, 1) := by decide +kernel
theorem dX1_spread_99 : decode cX1_spread 99 = .ok (.iconst 1, 1) := by decide +kernel
theorem dX1_spread_100 : decode cX1_spread 100 = .ok (.iadd, 1) := by decide +kernel
theorem dX1_spread_101 : decode cX1_spread 101 = .ok (.aload_n 2, 1) := by decide +kernel
theorem dX1_spread_102 : decode cX1_spread 102 = .ok (.invokevirtual 113, 3) := by decide +kernel
theorem dX1_spread_105 : decode cX1_spread 105 = .ok (.iinc 4 1, 3) := by decide +kernel
theorem dX1_spread_108 : decode cX1_spread 108 = .ok (.goto (-36), 3) := by decide +kernel
theorem dX1_spread_111 : decode cX1_spread 111 = .ok (.iinc 3 1, 3) := by decide +kernel
theorem dX1_spread_114 : decode cX1_spread 114 = .ok (.goto (-56), 3) := by decide +kernel
theorem dX1_spread_117 : decode cX1_spread 117 = .ok (.return_, 1) := by decide +kernel
theorem dX1_reach_0 : decode cX1_reach 0 = .ok (.iconst 0, 1) := by decide +kernel
theorem dX1_reach_1 : decode cX1_reach 1 = .ok (.istore 4, 2) := by decide +kernel
theorem dX1_reach_3 : decode cX1_reach 3 = .ok (.iload 4, 2) := by decide +kernel
theorem dX1_reach_5 : decode cX1_reach 5 = .ok (.iconst 4, 1) := by decide +kernel
theorem dX1_reach_6 : decode cX1_reach 6 = .ok (.if_icmp .ge 45, 3) := by decide +kernel
theorem dX1_reach_9 : decode cX1_reach 9 = .ok (.aload_n 0, 1) := by decide +kernel
theorem dX1_reach_10 : decode cX1_reach 10 = .ok (.getfield 35, 3) := by decide +kernel
theorem dX1_reach_13 : decode cX1_reach 13 = .ok (.iload_n 1, 1) := by decide +kernel
theorem dX1_reach_14 : decode cX1_reach 14 = .ok (.iload 4, 2) := by decide +kernel
theorem dX1_reach_16 : decode cX1_reach 16 = .ok (.invokevirtual 92, 3) := by decide +kernel
theorem dX1_reach_19 : decode cX1_reach 19 = .ok (.istore 5, 2) := by decide +kernel
theorem dX1_reach_21 : decode cX1_reach 21 = .ok (.iload 5, 2) := by decide +kernel
theorem dX1_reach_23 : decode cX1_reach 23 = .ok (.ifCond .lt 22, 3) := by decide +kernel
theorem dX1_reach_26 : decode cX1_reach 26 = .ok (.aload_n 3, 1) := by decide +kernel
theorem dX1_reach_27 : decode cX1_reach 27 = .ok (.iload 5, 2) := by decide +kernel
theorem dX1_reach_29 : decode cX1_reach 29 = .ok (.iconst 0, 1) := by decide +kernel
theorem dX1_reach_30 : decode cX1_reach 30 = .ok (.invokevirtual 92, 3) := by decide +kernel
theorem dX1_reach_33 : decode cX1_reach 33 = .ok (.iconst (-1), 1) := by decide +kernel
theorem dX1_reach_34 : decode cX1_reach 34 = .ok (.if_icmp .ne 11, 3) := by decide +kernel
theorem dX1_reach_37 : decode cX1_reach 37 = .ok (.aload_n 3, 1) := by decide +kernel
theorem dX1_reach_38 : decode cX1_reach 38 = .ok (.iload 5, 2) := by decide +kernel
theorem dX1_reach_40 : decode cX1_reach 40 = .ok (.iconst 0, 1) := by decide +kernel
theorem dX1_reach_41 : decode cX1_reach 41 = .ok (.iload_n 2, 1) := by decide +kernel
theorem dX1_reach_42 : decode cX1_reach 42 = .ok (.invokevirtual 105, 3) := by decide +kernel
theorem dX1_reach_45 : decode cX1_reach 45 = .ok (.iinc 4 1, 3) := by decide +kernel
theorem dX1_reach_48 : decode cX1_reach 48 = .ok (.goto (-45), 3) := by decide +kernel
theorem dX1_reach_51 : decode cX1_reach 51 = .ok (.return_, 1) := by decide +kernel
theorem dX1_delay_0 : decode cX1_delay 0 = .ok (.aload_n 0, 1) := by decide +kernel
theorem dX1_delay_1 : decode cX1_delay 1 = .ok (.getfield 48, 3) := by decide +kernel
theorem dX1_delay_4 : decode cX1_delay 4 = .ok (.iconst 1, 1) := by decide +kernel
theorem dX1_delay_5 : decode cX1_delay 5 = .ok (.if_icmp .lt 19, 3) := by decide +kernel
theorem dX1_delay_8 : decode cX1_delay 8 = .ok (.aload_n 0, 1) := by decide +kernel
theorem dX1_delay_9 : decode cX1_delay 9 = .ok (.getfield 65, 3) := by decide +kernel
theorem dX1_delay_12 : decode cX1_delay 12 = .ok (.iconst 1, 1) := by decide +kernel
theorem dX1_delay_13 : decode cX1_delay 13 = .ok (.if_icmp .lt 11, 3) := by decide +kernel
theorem dX1_delay_16 : decode cX1_delay 16 = .ok (.iload_n 1, 1) := by decide +kernel
theorem dX1_delay_17 : decode cX1_delay 17 = .ok (.ifCond .lt 7, 3) := by decide +kernel
theorem dX1_delay_20 : decode cX1_delay 20 = .ok (.iload_n 2, 1) := by decide +kernel
theorem dX1_delay_21 : decode cX1_delay 21 = .ok (.ifCond .ge 5, 3) := by decide +kernel
theorem dX1_delay_24 : decode cX1_delay 24 = .ok (.iconst 0, 1) := by decide +kernel
theorem dX1_delay_25 : decode cX1_delay 25 = .ok (.ireturn, 1) := by decide +kernel
theorem dX1_delay_26 : decode cX1_delay 26 = .ok (.iload_n 1, 1) := by decide +kernel
theorem dX1_delay_27 : decode cX1_delay 27 = .ok (.aload_n 0, 1) := by decide +kernel
theorem dX1_delay_28 : decode cX1_delay 28 = .ok (.getfield 48, 3) := by decide +kernel
theorem dX1_delay_31 : decode cX1_delay 31 = .ok (.irem, 1) := by decide +kernel
theorem dX1_delay_32 : decode cX1_delay 32 = .ok (.iload_n 2, 1) := by decide +kernel
theorem dX1_delay_33 : decode cX1_delay 33 = .ok (.aload_n 0, 1) := by decide +kernel
theorem dX1_delay_34 : decode cX1_delay 34 = .ok (.getfield 48, 3) := by decide +kernel
theorem dX1_delay_37 : decode cX1_delay 37 = .ok (.irem, 1) := by decide +kernel
theorem dX1_delay_38 : decode cX1_delay 38 = .ok (.isub, 1) := by decide +kernel
theorem dX1_delay_39 : decode cX1_delay 39 = .ok (.invokestatic 117, 3) := by decide +kernel
theorem dX1_delay_42 : decode cX1_delay 42 = .ok (.istore_n 3, 1) := by decide +kernel
theorem dX1_delay_43 : decode cX1_delay 43 = .ok (.iload_n 1, 1) := by decide +kernel
theorem dX1_delay_44 : decode cX1_delay 44 = .ok (.aload_n 0, 1) := by decide +kernel
theorem dX1_delay_45 : decode cX1_delay 45 = .ok (.getfield 48, 3) := by decide +kernel
theorem dX1_delay_48 : decode cX1_delay 48 = .ok (.idiv, 1) := by decide +kernel
theorem dX1_delay_49 : decode cX1_delay 49 = .ok (.iload_n 2, 1) := by decide +kernel
theorem dX1_delay_50 : decode cX1_delay 50 = .ok (.aload_n 0, 1) := by decide +kernel
theorem dX1_delay_51 : decode cX1_delay 51 = .ok (.getfield 48, 3) := by decide +kernel
theorem dX1_delay_54 : decode cX1_delay 54 = .ok (.idiv, 1) := by decide +kernel
theorem dX1_delay_55 : decode cX1_delay 55 = .ok (.isub, 1) := by decide +kernel
theorem dX1_delay_56 : decode cX1_delay 56 = .ok (.invokestatic 117, 3) := by decide +kernel
theorem dX1_delay_59 : decode cX1_delay 59 = .ok (.istore 4, 2) := by decide +kernel
theorem dX1_delay_61 : decode cX1_delay 61 = .ok (.iload_n 3, 1) := by decide +kernel
theorem dX1_delay_62 : decode cX1_delay 62 = .ok (.iload 4, 2) := by decide +kernel
theorem dX1_delay_64 : decode cX1_delay 64 = .ok (.iadd, 1) := by decide +kernel
theorem dX1_delay_65 : decode cX1_delay 65 = .ok (.aload_n 0, 1) := by decide +kernel
theorem dX1_delay_66 : decode cX1_delay 66 = .ok (.getfield 65, 3) := by decide +kernel
theorem dX1_delay_69 : decode cX1_delay 69 = .ok (.idiv, 1) := by decide +kernel
theorem dX1_delay_70 : decode cX1_delay 70 = .ok (.ireturn, 1) := by decide +kernel
theorem dX1_pace_0 : decode cX1_pace 0 = .ok (.aload_n 0, 1) := by decide +kernel
theorem dX1_pace_1 : decode cX1_pace 1 = .ok (.getfield 20, 3) := by decide +kernel
theorem dX1_pace_4 : decode cX1_pace 4 = .ok (.invokevirtual 84, 3) := by decide +kernel
theorem dX1_pace_7 : decode cX1_pace 7 = .ok (.istore_n 2, 1) := by decide +kernel
theorem dX1_pace_8 : decode cX1_pace 8 = .ok (.iload_n 2, 1) := by decide +kernel
theorem dX1_pace_9 : decode cX1_pace 9 = .ok (.iconst 1, 1) := by decide +kernel
theorem dX1_pace_10 : decode cX1_pace 10 = .ok (.if_icmp .lt 7, 3) := by decide +kernel
theorem dX1_pace_13 : decode cX1_pace 13 = .ok (.iload_n 1, 1) := by decide +kernel
theorem dX1_pace_14 : decode cX1_pace 14 = .ok (.ifCond .ge 7, 3) := by decide +kernel
theorem dX1_pace_17 : decode cX1_pace 17 = .ok (.iconst 0, 1) := by decide +kernel
theorem dX1_pace_18 : decode cX1_pace 18 = .ok (.goto 14, 3) := by decide +kernel
theorem dX1_pace_21 : decode cX1_pace 21 = .ok (.aload_n 0, 1) := by decide +kernel
theorem dX1_pace_22 : decode cX1_pace 22 = .ok (.getfield 20, 3) := by decide +kernel
theorem dX1_pace_25 : decode cX1_pace 25 = .ok (.iload_n 1, 1) := by decide +kernel
theorem dX1_pace_26 : decode cX1_pace 26 = .ok (.iload_n 2, 1) := by decide +kernel
theorem dX1_pace_27 : decode cX1_pace 27 = .ok (.irem, 1) := by decide +kernel
theorem dX1_pace_28 : decode cX1_pace 28 = .ok (.iconst 0, 1) := by decide +kernel
theorem dX1_pace_29 : decode cX1_pace 29 = .ok (.invokevirtual 92, 3) := by decide +kernel
theorem dX1_pace_32 : decode cX1_pace 32 = .ok (.ireturn, 1) := by decide +kernel
theorem dX2_init_0 : decode cX2_init 0 = .ok (.aload_n 0, 1) := by decide +kernel
theorem dX2_init_1 : decode cX2_init 1 = .ok (.invokespecial 1, 3) := by decide +kernel
theorem dX2_init_4 : decode cX2_init 4 = .ok (.aload_n 0, 1) := by decide +kernel
theorem dX2_init_5 : decode cX2_init 5 = .ok (.new 7, 3) := by decide +kernel
theorem dX2_init_8 : decode cX2_init 8 = .ok (.dup, 1) := by decide +kernel
theorem dX2_init_9 : decode cX2_init 9 = .ok (.bipush 8, 2) := by decide +kernel
theorem dX2_init_11 : decode cX2_init 11 = .ok (.iconst 1, 1) := by decide +kernel
theorem dX2_init_12 : decode cX2_init 12 = .ok (.invokespecial 9, 3) := by decide +kernel
theorem dX2_init_15 : decode cX2_init 15 = .ok (.putfield 12, 3) := by decide +kernel
theorem dX2_init_18 : decode cX2_init 18 = .ok (.aload_n 0, 1) := by decide +kernel
theorem dX2_init_19 : decode cX2_init 19 = .ok (.new 7, 3) := by decide +kernel
theorem dX2_init_22 : decode cX2_init 22 = .ok (.dup, 1) := by decide +kernel
theorem dX2_init_23 : decode cX2_init 23 = .ok (.bipush 8, 2) := by decide +kernel
theorem dX2_init_25 : decode cX2_init 25 = .ok (.iconst 1, 1) := by decide +kernel
theorem dX2_init_26 : decode cX2_init 26 = .ok (.invokespecial 9, 3) := by decide +kernel
theorem dX2_init_29 : decode cX2_init 29 = .ok (.putfield 18, 3) := by decide +kernel
theorem dX2_init_32 : decode cX2_init 32 = .ok (.return_, 1) := by decide +kernel
theorem dX2_begin_0 : decode cX2_begin 0 = .ok (.aload_n 0, 1) := by decide +kernel
theorem dX2_begin_1 : decode cX2_begin 1 = .ok (.getfield 12, 3) := by decide +kernel
theorem dX2_begin_4 : decode cX2_begin 4 = .ok (.iconst 0, 1) := by decide +kernel
theorem dX2_begin_5 : decode cX2_begin 5 = .ok (.invokevirtual 21, 3) := by decide +kernel
theorem dX2_begin_8 : decode cX2_begin 8 = .ok (.iconst 0, 1) := by decide +kernel
theorem dX2_begin_9 : decode cX2_begin 9 = .ok (.istore_n 2, 1) := by decide +kernel
theorem dX2_begin_10 : decode cX2_begin 10 = .ok (.iload_n 2, 1) := by decide +kernel
theorem dX2_begin_11 : decode cX2_begin 11 = .ok (.iload_n 1, 1) := by decide +kernel
theorem dX2_begin_12 : decode cX2_begin 12 = .ok (.if_icmp .ge 17, 3) := by decide +kernel
theorem dX2_begin_15 : decode cX2_begin 15 = .ok (.aload_n 0, 1) := by decide +kernel
theorem dX2_begin_16 : decode cX2_begin 16 = .ok (.getfield 12, 3) := by decide +kernel
theorem dX2_begin_19 : decode cX2_begin 19 = .ok (.iload_n 2, 1) := by decide +kernel
theorem dX2_begin_20 : decode cX2_begin 20 = .ok (.invokevirtual 25, 3) := by decide +kernel
theorem dX2_begin_23 : decode cX2_begin 23 = .ok (.iinc 2 1, 3) := by decide +kernel
theorem dX2_begin_26 : decode cX2_begin 26 = .ok (.goto (-16), 3) := by decide +kernel
theorem dX2_begin_29 : decode cX2_begin 29 = .ok (.aload_n 0, 1) := by decide +kernel
theorem dX2_begin_30 : decode cX2_begin 30 = .ok (.getfield 18, 3) := by decide +kernel
theorem dX2_begin_33 : decode cX2_begin 33 = .ok (.aload_n 0, 1) := by decide +kernel
theorem dX2_begin_34 : decode cX2_begin 34 = .ok (.getfield 12, 3) := by decide +kernel
theorem dX2_begin_37 : decode cX2_begin 37 = .ok (.invokevirtual 28, 3) := by decide +kernel
theorem dX2_begin_40 : decode cX2_begin 40 = .ok (.return_, 1) := by decide +kernel
theorem dX2_next_0 : decode cX2_next 0 = .ok (.aload_n 0, 1) := by decide +kernel
theorem dX2_next_1 : decode cX2_next 1 = .ok (.getfield 12, 3) := by decide +kernel
theorem dX2_next_4 : decode cX2_next 4 = .ok (.invokevirtual 32, 3) := by decide +kernel
theorem dX2_next_7 : decode cX2_next 7 = .ok (.iconst 1, 1) := by decide +kernel
theorem dX2_next_8 : decode cX2_next 8 = .ok (.isub, 1) := by decide +kernel
theorem dX2_next_9 : decode cX2_next 9 = .ok (.istore_n 1, 1) := by decide +kernel
theorem dX2_next_10 : decode cX2_next 10 = .ok (.iload_n 1, 1) := by decide +kernel
theorem dX2_next_11 : decode cX2_next 11 = .ok (.iconst 1, 1) := by decide +kernel
theorem dX2_next_12 : decode cX2_next 12 = .ok (.isub, 1) := by decide +kernel
theorem dX2_next_13 : decode cX2_next 13 = .ok (.istore_n 2, 1) := by decide +kernel
theorem dX2_next_14 : decode cX2_next 14 = .ok (.iload_n 2, 1) := by decide +kernel
theorem dX2_next_15 : decode cX2_next 15 = .ok (.iconst 1, 1) := by decide +kernel
theorem dX2_next_16 : decode cX2_next 16 = .ok (.if_icmp .lt 32, 3) := by decide +kernel
theorem dX2_next_19 : decode cX2_next 19 = .ok (.aload_n 0, 1) := by decide +kernel
theorem dX2_next_20 : decode cX2_next 20 = .ok (.getfield 12, 3) := by decide +kernel
theorem dX2_next_23 : decode cX2_next 23 = .ok (.iload_n 2, 1) := by decide +kernel
theorem dX2_next_24 : decode cX2_next 24 = .ok (.iconst 0, 1) := by decide +kernel
theorem dX2_next_25 : decode cX2_next 25 = .ok (.invokevirtual 36, 3) := by decide +kernel
theorem dX2_next_28 : decode cX2_next 28 = .ok (.aload_n 0, 1) := by decide +kernel
theorem dX2_next_29 : decode cX2_next 29 = .ok (.getfield 12, 3) := by decide +kernel
theorem dX2_next_32 : decode cX2_next 32 = .ok (.iload_n 2, 1) := by decide +kernel
theorem dX2_next_33 : decode cX2_next 33 = .ok (.iconst 1, 1) := by decide +kernel
theorem dX2_next_34 : decode cX2_next 34 = .ok (.iadd, 1) := by decide +kernel
theorem dX2_next_35 : decode cX2_next 35 = .ok (.iconst 0, 1) := by decide +kernel
theorem dX2_next_36 : decode cX2_next 36 = .ok (.invokevirtual 36, 3) := by decide +kernel
theorem dX2_next_39 : decode cX2_next 39 = .ok (.if_icmp .le 9, 3) := by decide +kernel
theorem dX2_next_42 : decode cX2_next 42 = .ok (.iinc 2 (-1), 3) := by decide +kernel
theorem dX2_next_45 : decode cX2_next 45 = .ok (.goto (-31), 3) := by decide +kernel
theorem dX2_next_48 : decode cX2_next 48 = .ok (.iload_n 2, 1) := by decide +kernel
theorem dX2_next_49 : decode cX2_next 49 = .ok (.iconst 1, 1) := by decide +kernel
theorem dX2_next_50 : decode cX2_next 50 = .ok (.if_icmp .ge 5, 3) := by decide +kernel
theorem dX2_next_53 : decode cX2_next 53 = .ok (.iconst 0, 1) := by decide +kernel
theorem dX2_next_54 : decode cX2_next 54 = .ok (.ireturn, 1) := by decide +kernel
theorem dX2_next_55 : decode cX2_next 55 = .ok (.iload_n 1, 1) := by decide +kernel
theorem dX2_next_56 : decode cX2_next 56 = .ok (.istore_n 3, 1) := by decide +kernel
theorem dX2_next_57 : decode cX2_next 57 = .ok (.iload_n 3, 1) := by decide +kernel
theorem dX2_next_58 : decode cX2_next 58 = .ok (.iload_n 2, 1) := by decide +kernel
theorem dX2_next_59 : decode cX2_next 59 = .ok (.if_icmp .le 30, 3) := by decide +kernel
theorem dX2_next_62 : decode cX2_next 62 = .ok (.aload_n 0, 1) := by decide +kernel
theorem dX2_next_63 : decode cX2_next 63 = .ok (.getfield 12, 3) := by decide +kernel
theorem dX2_next_66 : decode cX2_next 66 = .ok (.iload_n 3, 1) := by decide +kernel
theorem dX2_next_67 : decode cX2_next 67 = .ok (.iconst 0, 1) := by decide +kernel
theorem dX2_next_68 : decode cX2_next 68 = .ok (.invokevirtual 36, 3) := by decide +kernel
theorem dX2_next_71 : decode cX2_next 71 = .ok (.aload_n 0, 1) := by decide +kernel
theorem dX2_next_72 : decode cX2_next 72 = .ok (.getfield 12, 3) := by decide +kernel
theorem dX2_next_75 : decode cX2_next 75 = .ok (.iload_n 2, 1) := by decide +kernel
theorem dX2_next_76 : decode cX2_next 76 = .ok (.iconst 0, 1) := by decide +kernel
theorem dX2_next_77 : decode cX2_next 77 = .ok (.invokevirtual 36, 3) := by decide +kernel
theorem dX2_next_80 : decode cX2_next 80 = .ok (.if_icmp .ge 9, 3) := by decide +kernel
theorem dX2_next_83 : decode cX2_next 83 = .ok (.iinc 3 (-1), 3) := by decide +kernel
theorem dX2_next_86 : decode cX2_next 86 = .ok (.goto (-29), 3) := by decide +kernel
theorem dX2_next_89 : decode cX2_next 89 = .ok (.aload_n 0, 1) := by decide +kernel
theorem dX2_next_90 : decode cX2_next 90 = .ok (.iload_n 2, 1) := by decide +kernel
theorem dX2_next_91 : decode cX2_next 91 = .ok (.iload_n 3, 1) := by decide +kernel
theorem dX2_next_92 : decode cX2_next 92 = .ok (.invokevirtual 40, 3) := by decide +kernel
theorem dX2_next_95 : decode cX2_next 95 = .ok (.iload_n 1, 1) := by decide +kernel
theorem dX2_next_96 : decode cX2_next 96 = .ok (.istore 4, 2) := by decide +kernel
theorem dX2_next_98 : decode cX2_next 98 = .ok (.iload_n 2, 1) := by decide +kernel
theorem dX2_next_99 : decode cX2_next 99 = .ok (.iconst 1, 1) := by decide +kernel
theorem dX2_next_100 : decode cX2_next 100 = .ok (.iadd, 1) := by decide +kernel
theorem dX2_next_101 : decode cX2_next 101 = .ok (.istore 5, 2) := by decide +kernel
theorem dX2_next_103 : decode cX2_next 103 = .ok (.iload 5, 2) := by decide +kernel
theorem dX2_next_105 : decode cX2_next 105 = .ok (.iload 4, 2) := by decide +kernel
theorem dX2_next_107 : decode cX2_next 107 = .ok (.if_icmp .ge 20, 3) := by decide +kernel
theorem dX2_next_110 : decode cX2_next 110 = .ok (.aload_n 0, 1) := by decide +kernel
theorem dX2_next_111 : decode cX2_next 111 = .ok (.iload 5, 2) := by decide +kernel
theorem dX2_next_113 : decode cX2_next 113 = .ok (.iload 4, 2) := by decide +kernel
theorem dX2_next_115 : decode cX2_next 115 = .ok (.invokevirtual 40, 3) := by decide +kernel
theorem dX2_next_118 : decode cX2_next 118 = .ok (.iinc 4 (-1), 3) := by decide +kernel
theorem dX2_next_121 : decode cX2_next 121 = .ok (.iinc 5 1, 3) := by decide +kernel
theorem dX2_next_124 : decode cX2_next 124 = .ok (.goto (-21), 3) := by decide +kernel
theorem dX2_next_127 : decode cX2_next 127 = .ok (.iconst 1, 1) := by decide +kernel
theorem dX2_next_128 : decode cX2_next 128 = .ok (.ireturn, 1) := by decide +kernel
theorem dX2_swap_0 : decode cX2_swap 0 = .ok (.aload_n 0, 1) := by decide +kernel
theorem dX2_swap_1 : decode cX2_swap 1 = .ok (.getfield 12, 3) := by decide +kernel
theorem dX2_swap_4 : decode cX2_swap 4 = .ok (.iload_n 1, 1) := by decide +kernel
theorem dX2_swap_5 : decode cX2_swap 5 = .ok (.iconst 0, 1) := by decide +kernel
theorem dX2_swap_6 : decode cX2_swap 6 = .ok (.invokevirtual 36, 3) := by decide +kernel
theorem dX2_swap_9 : decode cX2_swap 9 = .ok (.istore_n 3, 1) := by decide +kernel
theorem dX2_swap_10 : decode cX2_swap 10 = .ok (.aload_n 0, 1) := by decide +kernel
theorem dX2_swap_11 : decode cX2_swap 11 = .ok (.getfield 12, 3) := by decide +kernel
theorem dX2_swap_14 : decode cX2_swap 14 = .ok (.iload_n 1, 1) := by decide +kernel
theorem dX2_swap_15 : decode cX2_swap 15 = .ok (.iconst 0, 1) := by decide +kernel
theorem dX2_swap_16 : decode cX2_swap 16 = .ok (.aload_n 0, 1) := by decide +kernel
theorem dX2_swap_17 : decode cX2_swap 17 = .ok (.getfield 12, 3) := by decide +kernel
theorem dX2_swap_20 : decode cX2_swap 20 = .ok (.iload_n 2, 1) := by decide +kernel
theorem dX2_swap_21 : decode cX2_swap 21 = .ok (.iconst 0, 1) := by decide +kernel
theorem dX2_swap_22 : decode cX2_swap 22 = .ok (.invokevirtual 36, 3) := by decide +kernel
theorem dX2_swap_25 : decode cX2_swap 25 = .ok (.invokevirtual 43, 3) := by decide +kernel
theorem dX2_swap_28 : decode cX2_swap 28 = .ok (.aload_n 0, 1) := by decide +kernel
theorem dX2_swap_29 : decode cX2_swap 29 = .ok (.getfield 12, 3) := by decide +kernel
theorem dX2_swap_32 : decode cX2_swap 32 = .ok (.iload_n 2, 1) := by decide +kernel
theorem dX2_swap_33 : decode cX2_swap 33 = .ok (.iconst 0, 1) := by decide +kernel
theorem dX2_swap_34 : decode cX2_swap 34 = .ok (.iload_n 3, 1) := by decide +kernel
theorem dX2_swap_35 : decode cX2_swap 35 = .ok (.invokevirtual 43, 3) := by decide +kernel
theorem dX2_swap_38 : decode cX2_swap 38 = .ok (.return_, 1) := by decide +kernel
theorem dX3_init_0 : decode cX3_init 0 = .ok (.aload_n 0, 1) := by decide +kernel
theorem dX3_init_1 : decode cX3_init 1 = .ok (.invokespecial 3, 3) := by decide +kernel
theorem dX3_init_4 : decode cX3_init 4 = .ok (.aload_n 0, 1) := by decide +kernel
theorem dX3_init_5 : decode cX3_init 5 = .ok (.new 9, 3) := by decide +kernel
theorem dX3_init_8 : decode cX3_init 8 = .ok (.dup, 1) := by decide +kernel
theorem dX3_init_9 : decode cX3_init 9 = .ok (.iconst 4, 1) := by decide +kernel
theorem dX3_init_10 : decode cX3_init 10 = .ok (.iconst 2, 1) := by decide +kernel
theorem dX3_init_11 : decode cX3_init 11 = .ok (.invokespecial 11, 3) := by decide +kernel
theorem dX3_init_14 : decode cX3_init 14 = .ok (.putfield 14, 3) := by decide +kernel
theorem dX3_init_17 : decode cX3_init 17 = .ok (.aload_n 0, 1) := by decide +kernel
theorem dX3_init_18 : decode cX3_init 18 = .ok (.aload_n 1, 1) := by decide +kernel
theorem dX3_init_19 : decode cX3_init 19 = .ok (.putfield 20, 3) := by decide +kernel
theorem dX3_init_22 : decode cX3_init 22 = .ok (.aload_n 0, 1) := by decide +kernel
theorem dX3_init_23 : decode cX3_init 23 = .ok (.aload_n 2, 1) := by decide +kernel
theorem dX3_init_24 : decode cX3_init 24 = .ok (.putfield 23, 3) := by decide +kernel
theorem dX3_init_27 : decode cX3_init 27 = .ok (.return_, 1) := by decide +kernel
theorem dX3_read_0 : decode cX3_read 0 = .ok (.aload_n 0, 1) := by decide +kernel
theorem dX3_read_1 : decode cX3_read 1 = .ok (.iload_n 1, 1) := by decide +kernel
theorem dX3_read_2 : decode cX3_read 2 = .ok (.invokevirtual 27, 3) := by decide +kernel
theorem dX3_read_5 : decode cX3_read 5 = .ok (.iconst 0, 1) := by decide +kernel
theorem dX3_read_6 : decode cX3_read 6 = .ok (.istore_n 2, 1) := by decide +kernel
theorem dX3_read_7 : decode cX3_read 7 = .ok (.iload_n 2, 1) := by decide +kernel
theorem dX3_read_8 : decode cX3_read 8 = .ok (.aload_n 0, 1) := by decide +kernel
theorem dX3_read_9 : decode cX3_read 9 = .ok (.getfield 31, 3) := by decide +kernel
theorem dX3_read_12 : decode cX3_read 12 = .ok (.if_icmp .gt 177, 3) := by decide +kernel
theorem dX3_read_15 : decode cX3_read 15 = .ok (.aload_n 0, 1) := by decide +kernel
theorem dX3_read_16 : decode cX3_read 16 = .ok (.invokevirtual 35, 3) := by decide +kernel
theorem dX3_read_19 : decode cX3_read 19 = .ok (.tableswitch 133 0 9 #[53, 61, 69, 77, 85, 93, 101, 109, 117, 125], 53) := by decide +kernel
theorem dX3_read_72 : decode cX3_read 72 = .ok (.aload_n 0, 1) := by decide +kernel
theorem dX3_read_73 : decode cX3_read 73 = .ok (.invokevirtual 39, 3) := by decide +kernel
theorem dX3_read_76 : decode cX3_read 76 = .ok (.istore_n 3, 1) := by decide +kernel
theorem dX3_read_77 : decode cX3_read 77 = .ok (.goto 77, 3) := by decide +kernel
theorem dX3_read_80 : decode cX3_read 80 = .ok (.aload_n 0, 1) := by decide +kernel
theorem dX3_read_81 : decode cX3_read 81 = .ok (.invokevirtual 43, 3) := by decide +kernel
theorem dX3_read_84 : decode cX3_read 84 = .ok (.istore_n 3, 1) := by decide +kernel
theorem dX3_read_85 : decode cX3_read 85 = .ok (.goto 69, 3) := by decide +kernel
theorem dX3_read_88 : decode cX3_read 88 = .ok (.aload_n 0, 1) := by decide +kernel
theorem dX3_read_89 : decode cX3_read 89 = .ok (.invokevirtual 46, 3) := by decide +kernel
theorem dX3_read_92 : decode cX3_read 92 = .ok (.istore_n 3, 1) := by decide +kernel
theorem dX3_read_93 : decode cX3_read 93 = .ok (.goto 61, 3) := by decide +kernel
theorem dX3_read_96 : decode cX3_read 96 = .ok (.aload_n 0, 1) := by decide +kernel
theorem dX3_read_97 : decode cX3_read 97 = .ok (.invokevirtual 49, 3) := by decide +kernel
theorem dX3_read_100 : decode cX3_read 100 = .ok (.istore_n 3, 1) := by decide +kernel
theorem dX3_read_101 : decode cX3_read 101 = .ok (.goto 53, 3) := by decide +kernel
theorem dX3_read_104 : decode cX3_read 104 = .ok (.aload_n 0, 1) := by decide +kernel
theorem dX3_read_105 : decode cX3_read 105 = .ok (.invokevirtual 52, 3) := by decide +kernel
theorem dX3_read_108 : decode cX3_read 108 = .ok (.istore_n 3, 1) := by decide +kernel
theorem dX3_read_109 : decode cX3_read 109 = .ok (.goto 45, 3) := by decide +kernel
theorem dX3_read_112 : decode cX3_read 112 = .ok (.aload_n 0, 1) := by decide +kernel
theorem dX3_read_113 : decode cX3_read 113 = .ok (.invokevirtual 55, 3) := by decide +kernel
theorem dX3_read_116 : decode cX3_read 116 = .ok (.istore_n 3, 1) := by decide +kernel
theorem dX3_read_117 : decode cX3_read 117 = .ok (.goto 37, 3) := by decide +kernel
theorem dX3_read_120 : decode cX3_read 120 = .ok (.aload_n 0, 1) := by decide +kernel
theorem dX3_read_121 : decode cX3_read 121 = .ok (.invokevirtual 58, 3) := by decide +kernel
theorem dX3_read_124 : decode cX3_read 124 = .ok (.istore_n 3, 1) := by decide +kernel
theorem dX3_read_125 : decode cX3_read 125 = .ok (.goto 29, 3) := by decide +kernel
theorem dX3_read_128 : decode cX3_read 128 = .ok (.aload_n 0, 1) := by decide +kernel
theorem dX3_read_129 : decode cX3_read 129 = .ok (.invokevirtual 61, 3) := by decide +kernel
theorem dX3_read_132 : decode cX3_read 132 = .ok (.istore_n 3, 1) := by decide +kernel
theorem dX3_read_133 : decode cX3_read 133 = .ok (.goto 21, 3) := by decide +kernel
theorem dX3_read_136 : decode cX3_read 136 = .ok (.aload_n 0, 1) := by decide +kernel
theorem dX3_read_137 : decode cX3_read 137 = .ok (.invokevirtual 64, 3) := by decide +kernel
theorem dX3_read_140 : decode cX3_read 140 = .ok (.istore_n 3, 1) := by decide +kernel
theorem dX3_read_141 : decode cX3_read 141 = .ok (.goto 13, 3) := by decide +kernel
theorem dX3_read_144 : decode cX3_read 144 = .ok (.aload_n 0, 1) := by decide +kernel
theorem dX3_read_145 : decode cX3_read 145 = .ok (.invokevirtual 67, 3) := by decide +kernel
theorem dX3_read_148 : decode cX3_read 148 = .ok (.istore_n 3, 1) := by decide +kernel
theorem dX3_read_149 : decode cX3_read 149 = .ok (.goto 5, 3) := by decide +kernel
theorem dX3_read_152 : decode cX3_read 152 = .ok (.iconst 0, 1) := by decide +kernel
theorem dX3_read_153 : decode cX3_read 153 = .ok (.istore_n 3, 1) := by decide +kernel
theorem dX3_read_154 : decode cX3_read 154 = .ok (.iload_n 3, 1) := by decide +kernel
theorem dX3_read_155 : decode cX3_read 155 = .ok (.ifCond .ne 5, 3) := by decide +kernel
theorem dX3_read_158 : decode cX3_read 158 = .ok (.iconst 0, 1) := by decide +kernel
theorem dX3_read_159 : decode cX3_read 159 = .ok (.ireturn, 1) := by decide +kernel
theorem dX3_read_160 : decode cX3_read 160 = .ok (.aload_n 0, 1) := by decide +kernel
theorem dX3_read_161 : decode cX3_read 161 = .ok (.getfield 70, 3) := by decide +kernel
theorem dX3_read_164 : decode cX3_read 164 = .ok (.iconst 5, 1) := by decide +kernel
theorem dX3_read_165 : decode cX3_read 165 = .ok (.if_icmp .ne 8, 3) := by decide +kernel
theorem dX3_read_168 : decode cX3_read 168 = .ok (.aload_n 0, 1) := by decide +kernel
theorem dX3_read_169 : decode cX3_read 169 = .ok (.invokevirtual 73, 3) := by decide +kernel
theorem dX3_read_172 : decode cX3_read 172 = .ok (.ireturn, 1) := by decide +kernel
theorem dX3_read_173 : decode cX3_read 173 = .ok (.aload_n 0, 1) := by decide +kernel
theorem dX3_read_174 : decode cX3_read 174 = .ok (.iconst 3, 1) := by decide +kernel
theorem dX3_read_175 : decode cX3_read 175 = .ok (.invokevirtual 76, 3) := by decide +kernel
theorem dX3_read_178 : decode cX3_read 178 = .ok (.ifCond .ne 5, 3) := by decide +kernel
theorem dX3_read_181 : decode cX3_read 181 = .ok (.iconst 0, 1) := by decide +kernel
theorem dX3_read_182 : decode cX3_read 182 = .ok (.ireturn, 1) := by decide +kernel
theorem dX3_read_183 : decode cX3_read 183 = .ok (.iinc 2 1, 3) := by decide +kernel
theorem dX3_read_186 : decode cX3_read 186 = .ok (.goto (-179), 3) := by decide +kernel
theorem dX3_read_189 : decode cX3_read 189 = .ok (.aload_n 0, 1) := by decide +kernel
theorem dX3_read_190 : decode cX3_read 190 = .ok (.iconst 1, 1) := by decide +kernel
theorem dX3_read_191 : decode cX3_read 191 = .ok (.aload_n 0, 1) := by decide +kernel
theorem dX3_read_192 : decode cX3_read 192 = .ok (.getfield 80, 3) := by decide +kernel
theorem dX3_read_195 : decode cX3_read 195 = .ok (.invokevirtual 83, 3) := by decide +kernel
theorem dX3_read_198 : decode cX3_read 198 = .ok (.ireturn, 1) := by decide +kernel
theorem dX3_begin_0 : decode cX3_begin 0 = .ok (.aload_n 0, 1) := by decide +kernel
theorem dX3_begin_1 : decode cX3_begin 1 = .ok (.getfield 23, 3) := by decide +kernel
theorem dX3_begin_4 : decode cX3_begin 4 = .ok (.invokevirtual 87, 3) := by decide +kernel
theorem dX3_begin_7 : decode cX3_begin 7 = .ok (.aload_n 0, 1) := by decide +kernel
theorem dX3_begin_8 : decode cX3_begin 8 = .ok (.getfield 14, 3) := by decide +kernel
theorem dX3_begin_11 : decode cX3_begin 11 = .ok (.iconst 0, 1) := by decide +kernel
theorem dX3_begin_12 : decode cX3_begin 12 = .ok (.invokevirtual 92, 3) := by decide +kernel
theorem dX3_begin_15 : decode cX3_begin 15 = .ok (.aload_n 0, 1) := by decide +kernel
theorem dX3_begin_16 : decode cX3_begin 16 = .ok (.iload_n 1, 1) := by decide +kernel
theorem dX3_begin_17 : decode cX3_begin 17 = .ok (.putfield 31, 3) := by decide +kernel
theorem dX3_begin_20 : decode cX3_begin 20 = .ok (.aload_n 0, 1) := by decide +kernel
theorem dX3_begin_21 : decode cX3_begin 21 = .ok (.iconst 0, 1) := by decide +kernel
theorem dX3_begin_22 : decode cX3_begin 22 = .ok (.putfield 95, 3) := by decide +kernel
theorem dX3_begin_25 : decode cX3_begin 25 = .ok (.aload_n 0, 1) := by decide +kernel
theorem dX3_begin_26 : decode cX3_begin 26 = .ok (.iconst 0, 1) := by decide +kernel
theorem dX3_begin_27 : decode cX3_begin 27 = .ok (.putfield 98, 3) := by decide +kernel
theorem dX3_begin_30 : decode cX3_begin 30 = .ok (.aload_n 0, 1) := by decide +kernel
theorem dX3_begin_31 : decode cX3_begin 31 = .ok (.iconst 0, 1) := by decide +kernel
theorem dX3_begin_32 : decode cX3_begin 32 = .ok (.putfield 101, 3) := by decide +kernel
theorem dX3_begin_35 : decode cX3_begin 35 = .ok (.aload_n 0, 1) := by decide +kernel
theorem dX3_begin_36 : decode cX3_begin 36 = .ok (.invokevirtual 104, 3) := by decide +kernel
theorem dX3_begin_39 : decode cX3_begin 39 = .ok (.return_, 1) := by decide +kernel
theorem dX3_isWhole_0 : decode cX3_isWhole 0 = .ok (.aload_n 0, 1) := by decide +kernel
theorem dX3_isWhole_1 : decode cX3_isWhole 1 = .ok (.getfield 23, 3) := by decide +kernel
theorem dX3_isWhole_4 : decode cX3_isWhole 4 = .ok (.getfield 107, 3) := by decide +kernel
theorem dX3_isWhole_7 : decode cX3_isWhole 7 = .ok (.invokevirtual 110, 3) := by decide +kernel
theorem dX3_isWhole_10 : decode cX3_isWhole 10 = .ok (.iconst 1, 1) := by decide +kernel
theorem dX3_isWhole_11 : decode cX3_isWhole 11 = .ok (.if_icmp .lt 23, 3) := by decide +kernel
theorem dX3_isWhole_14 : decode cX3_isWhole 14 = .ok (.aload_n 0, 1) := by decide +kernel
theorem dX3_isWhole_15 : decode cX3_isWhole 15 = .ok (.getfield 23, 3) := by decide +kernel
theorem dX3_isWhole_18 : decode cX3_isWhole 18 = .ok (.getfield 113, 3) := by decide +kernel
theorem dX3_isWhole_21 : decode cX3_isWhole 21 = .ok (.ifCond .lt 13, 3) := by decide +kernel
theorem dX3_isWhole_24 : decode cX3_isWhole 24 = .ok (.aload_n 0, 1) := by decide +kernel
theorem dX3_isWhole_25 : decode cX3_isWhole 25 = .ok (.getfield 23, 3) := by decide +kernel
theorem dX3_isWhole_28 : decode cX3_isWhole 28 = .ok (.getfield 116, 3) := by decide +kernel
theorem dX3_isWhole_31 : decode cX3_isWhole 31 = .ok (.ifCond .ge 7, 3) := by decide +kernel
theorem dX3_isWhole_34 : decode cX3_isWhole 34 = .ok (.iconst 1, 1) := by decide +kernel
theorem dX3_isWhole_35 : decode cX3_isWhole 35 = .ok (.goto 4, 3) := by decide +kernel
theorem dX3_isWhole_38 : decode cX3_isWhole 38 = .ok (.iconst 0, 1) := by decide +kernel
theorem dX3_isWhole_39 : decode cX3_isWhole 39 = .ok (.istore_n 1, 1) := by decide +kernel
theorem dX3_isWhole_40 : decode cX3_isWhole 40 = .ok (.iload_n 1, 1) := by decide +kernel
theorem dX3_isWhole_41 : decode cX3_isWhole 41 = .ok (.ifCond .eq 16, 3) := by decide +kernel
theorem dX3_isWhole_44 : decode cX3_isWhole 44 = .ok (.aload_n 0, 1) := by decide +kernel
theorem dX3_isWhole_45 : decode cX3_isWhole 45 = .ok (.bipush 6, 2) := by decide +kernel
theorem dX3_isWhole_47 : decode cX3_isWhole 47 = .ok (.aload_n 0, 1) := by decide +kernel
theorem dX3_isWhole_48 : decode cX3_isWhole 48 = .ok (.getfield 31, 3) := by decide +kernel
theorem dX3_isWhole_51 : decode cX3_isWhole 51 = .ok (.invokevirtual 83, 3) := by decide +kernel
theorem dX3_isWhole_54 : decode cX3_isWhole 54 = .ok (.ifCond .eq 7, 3) := by decide +kernel
theorem dX3_isWhole_57 : decode cX3_isWhole 57 = .ok (.iconst 1, 1) := by decide +kernel
theorem dX3_isWhole_58 : decode cX3_isWhole 58 = .ok (.goto 4, 3) := by decide +kernel
theorem dX3_isWhole_61 : decode cX3_isWhole 61 = .ok (.iconst 0, 1) := by decide +kernel
theorem dX3_isWhole_62 : decode cX3_isWhole 62 = .ok (.ireturn, 1) := by decide +kernel
theorem dX3_lineComing_0 : decode cX3_lineComing 0 = .ok (.aload_n 0, 1) := by decide +kernel
theorem dX3_lineComing_1 : decode cX3_lineComing 1 = .ok (.getfield 70, 3) := by decide +kernel
theorem dX3_lineComing_4 : decode cX3_lineComing 4 = .ok (.iconst 1, 1) := by decide +kernel
theorem dX3_lineComing_5 : decode cX3_lineComing 5 = .ok (.if_icmp .ne 12, 3) := by decide +kernel
theorem dX3_lineComing_8 : decode cX3_lineComing 8 = .ok (.aload_n 0, 1) := by decide +kernel
theorem dX3_lineComing_9 : decode cX3_lineComing 9 = .ok (.ldc 119, 2) := by decide +kernel
theorem dX3_lineComing_11 : decode cX3_lineComing 11 = .ok (.invokevirtual 121, 3) := by decide +kernel
theorem dX3_lineComing_14 : decode cX3_lineComing 14 = .ok (.goto 4, 3) := by decide +kernel
theorem dX3_lineComing_17 : decode cX3_lineComing 17 = .ok (.iconst (-1), 1) := by decide +kernel
theorem dX3_lineComing_18 : decode cX3_lineComing 18 = .ok (.istore_n 1, 1) := by decide +kernel
theorem dX3_lineComing_19 : decode cX3_lineComing 19 = .ok (.iload_n 1, 1) := by decide +kernel
theorem dX3_lineComing_20 : decode cX3_lineComing 20 = .ok (.ifCond .ge 7, 3) := by decide +kernel
theorem dX3_lineComing_23 : decode cX3_lineComing 23 = .ok (.iconst 1, 1) := by decide +kernel
theorem dX3_lineComing_24 : decode cX3_lineComing 24 = .ok (.goto 8, 3) := by decide +kernel
theorem dX3_lineComing_27 : decode cX3_lineComing 27 = .ok (.aload_n 0, 1) := by decide +kernel
theorem dX3_lineComing_28 : decode cX3_lineComing 28 = .ok (.iload_n 1, 1) := by decide +kernel
theorem dX3_lineComing_29 : decode cX3_lineComing 29 = .ok (.invokevirtual 125, 3) := by decide +kernel
theorem dX3_lineComing_32 : decode cX3_lineComing 32 = .ok (.istore_n 2, 1) := by decide +kernel
theorem dX3_lineComing_33 : decode cX3_lineComing 33 = .ok (.iload_n 2, 1) := by decide +kernel
theorem dX3_lineComing_34 : decode cX3_lineComing 34 = .ok (.ifCond .eq 15, 3) := by decide +kernel
theorem dX3_lineComing_37 : decode cX3_lineComing 37 = .ok (.aload_n 0, 1) := by decide +kernel
theorem dX3_lineComing_38 : decode cX3_lineComing 38 = .ok (.iload_n 2, 1) := by decide +kernel
theorem dX3_lineComing_39 : decode cX3_lineComing 39 = .ok (.aload_n 0, 1) := by decide +kernel
theorem dX3_lineComing_40 : decode cX3_lineComing 40 = .ok (.getfield 80, 3) := by decide +kernel
theorem dX3_lineComing_43 : decode cX3_lineComing 43 = .ok (.invokevirtual 83, 3) := by decide +kernel
theorem dX3_lineComing_46 : decode cX3_lineComing 46 = .ok (.pop, 1) := by decide +kernel
theorem dX3_lineComing_47 : decode cX3_lineComing 47 = .ok (.iconst (-1), 1) := by decide +kernel
theorem dX3_lineComing_48 : decode cX3_lineComing 48 = .ok (.ireturn, 1) := by decide +kernel
theorem dX3_lineComing_49 : decode cX3_lineComing 49 = .ok (.aload_n 0, 1) := by decide +kernel
theorem dX3_lineComing_50 : decode cX3_lineComing 50 = .ok (.invokevirtual 104, 3) := by decide +kernel
theorem dX3_lineComing_53 : decode cX3_lineComing 53 = .ok (.iload_n 1, 1) := by decide +kernel
theorem dX3_lineComing_54 : decode cX3_lineComing 54 = .ok (.ireturn, 1) := by decide +kernel
theorem dX3_lineFault_0 : decode cX3_lineFault 0 = .ok (.aload_n 0, 1) := by decide +kernel
theorem dX3_lineFault_1 : decode cX3_lineFault 1 = .ok (.getfield 23, 3) := by decide +kernel
theorem dX3_lineFault_4 : decode cX3_lineFault 4 = .ok (.getfield 116, 3) := by decide +kernel
theorem dX3_lineFault_7 : decode cX3_lineFault 7 = .ok (.ifCond .lt 7, 3) := by decide +kernel
theorem dX3_lineFault_10 : decode cX3_lineFault 10 = .ok (.iconst 1, 1) := by decide +kernel
theorem dX3_lineFault_11 : decode cX3_lineFault 11 = .ok (.goto 4, 3) := by decide +kernel
theorem dX3_lineFault_14 : decode cX3_lineFault 14 = .ok (.iconst 0, 1) := by decide +kernel
theorem dX3_lineFault_15 : decode cX3_lineFault 15 = .ok (.istore_n 2, 1) := by decide +kernel
theorem dX3_lineFault_16 : decode cX3_lineFault 16 = .ok (.iload_n 1, 1) := by decide +kernel
theorem dX3_lineFault_17 : decode cX3_lineFault 17 = .ok (.tableswitch 279 0 8 #[51, 67, 87, 107, 127, 150, 170, 212, 237], 51) := by decide +kernel
theorem dX3_lineFault_68 : decode cX3_lineFault 68 = .ok (.aload_n 0, 1) := by decide +kernel
theorem dX3_lineFault_69 : decode cX3_lineFault 69 = .ok (.getfield 23, 3) := by decide +kernel
theorem dX3_lineFault_72 : decode cX3_lineFault 72 = .ok (.getfield 129, 3) := by decide +kernel
theorem dX3_lineFault_75 : decode cX3_lineFault 75 = .ok (.ifCond .le 7, 3) := by decide +kernel
theorem dX3_lineFault_78 : decode cX3_lineFault 78 = .ok (.iconst 3, 1) := by decide +kernel
theorem dX3_lineFault_79 : decode cX3_lineFault 79 = .ok (.goto 4, 3) := by decide +kernel
theorem dX3_lineFault_82 : decode cX3_lineFault 82 = .ok (.iconst 0, 1) := by decide +kernel
theorem dX3_lineFault_83 : decode cX3_lineFault 83 = .ok (.ireturn, 1) := by decide +kernel
theorem dX3_lineFault_84 : decode cX3_lineFault 84 = .ok (.aload_n 0, 1) := by decide +kernel
theorem dX3_lineFault_85 : decode cX3_lineFault 85 = .ok (.getfield 23, 3) := by decide +kernel
theorem dX3_lineFault_88 : decode cX3_lineFault 88 = .ok (.invokevirtual 132, 3) := by decide +kernel
theorem dX3_lineFault_91 : decode cX3_lineFault 91 = .ok (.ifCond .eq 7, 3) := by decide +kernel
theorem dX3_lineFault_94 : decode cX3_lineFault 94 = .ok (.iconst 5, 1) := by decide +kernel
theorem dX3_lineFault_95 : decode cX3_lineFault 95 = .ok (.goto 8, 3) := by decide +kernel
theorem dX3_lineFault_98 : decode cX3_lineFault 98 = .ok (.aload_n 0, 1) := by decide +kernel
theorem dX3_lineFault_99 : decode cX3_lineFault 99 = .ok (.iconst 0, 1) := by decide +kernel
theorem dX3_lineFault_100 : decode cX3_lineFault 100 = .ok (.invokevirtual 135, 3) := by decide +kernel
theorem dX3_lineFault_103 : decode cX3_lineFault 103 = .ok (.ireturn, 1) := by decide +kernel
theorem dX3_lineFault_104 : decode cX3_lineFault 104 = .ok (.aload_n 0, 1) := by decide +kernel
theorem dX3_lineFault_105 : decode cX3_lineFault 105 = .ok (.getfield 23, 3) := by decide +kernel
theorem dX3_lineFault_108 : decode cX3_lineFault 108 = .ok (.getfield 139, 3) := by decide +kernel
theorem dX3_lineFault_111 : decode cX3_lineFault 111 = .ok (.ifCond .lt 7, 3) := by decide +kernel
theorem dX3_lineFault_114 : decode cX3_lineFault 114 = .ok (.iconst 3, 1) := by decide +kernel
theorem dX3_lineFault_115 : decode cX3_lineFault 115 = .ok (.goto 8, 3) := by decide +kernel
theorem dX3_lineFault_118 : decode cX3_lineFault 118 = .ok (.aload_n 0, 1) := by decide +kernel
theorem dX3_lineFault_119 : decode cX3_lineFault 119 = .ok (.iconst 0, 1) := by decide +kernel
theorem dX3_lineFault_120 : decode cX3_lineFault 120 = .ok (.invokevirtual 135, 3) := by decide +kernel
theorem dX3_lineFault_123 : decode cX3_lineFault 123 = .ok (.ireturn, 1) := by decide +kernel
theorem dX3_lineFault_124 : decode cX3_lineFault 124 = .ok (.aload_n 0, 1) := by decide +kernel
theorem dX3_lineFault_125 : decode cX3_lineFault 125 = .ok (.getfield 23, 3) := by decide +kernel
theorem dX3_lineFault_128 : decode cX3_lineFault 128 = .ok (.getfield 142, 3) := by decide +kernel
theorem dX3_lineFault_131 : decode cX3_lineFault 131 = .ok (.ifCond .lt 7, 3) := by decide +kernel
theorem dX3_lineFault_134 : decode cX3_lineFault 134 = .ok (.iconst 3, 1) := by decide +kernel
theorem dX3_lineFault_135 : decode cX3_lineFault 135 = .ok (.goto 8, 3) := by decide +kernel
theorem dX3_lineFault_138 : decode cX3_lineFault 138 = .ok (.aload_n 0, 1) := by decide +kernel
theorem dX3_lineFault_139 : decode cX3_lineFault 139 = .ok (.iconst 0, 1) := by decide +kernel
theorem dX3_lineFault_140 : decode cX3_lineFault 140 = .ok (.invokevirtual 135, 3) := by decide +kernel
theorem dX3_lineFault_143 : decode cX3_lineFault 143 = .ok (.ireturn, 1) := by decide +kernel
theorem dX3_lineFault_144 : decode cX3_lineFault 144 = .ok (.aload_n 0, 1) := by decide +kernel
theorem dX3_lineFault_145 : decode cX3_lineFault 145 = .ok (.getfield 23, 3) := by decide +kernel
theorem dX3_lineFault_148 : decode cX3_lineFault 148 = .ok (.getfield 107, 3) := by decide +kernel
theorem dX3_lineFault_151 : decode cX3_lineFault 151 = .ok (.invokevirtual 110, 3) := by decide +kernel
theorem dX3_lineFault_154 : decode cX3_lineFault 154 = .ok (.ifCond .le 7, 3) := by decide +kernel
theorem dX3_lineFault_157 : decode cX3_lineFault 157 = .ok (.iconst 3, 1) := by decide +kernel
theorem dX3_lineFault_158 : decode cX3_lineFault 158 = .ok (.goto 8, 3) := by decide +kernel
theorem dX3_lineFault_161 : decode cX3_lineFault 161 = .ok (.aload_n 0, 1) := by decide +kernel
theorem dX3_lineFault_162 : decode cX3_lineFault 162 = .ok (.iconst 0, 1) := by decide +kernel
theorem dX3_lineFault_163 : decode cX3_lineFault 163 = .ok (.invokevirtual 135, 3) := by decide +kernel
theorem dX3_lineFault_166 : decode cX3_lineFault 166 = .ok (.ireturn, 1) := by decide +kernel
theorem dX3_lineFault_167 : decode cX3_lineFault 167 = .ok (.aload_n 0, 1) := by decide +kernel
theorem dX3_lineFault_168 : decode cX3_lineFault 168 = .ok (.getfield 23, 3) := by decide +kernel
theorem dX3_lineFault_171 : decode cX3_lineFault 171 = .ok (.getfield 113, 3) := by decide +kernel
theorem dX3_lineFault_174 : decode cX3_lineFault 174 = .ok (.ifCond .lt 7, 3) := by decide +kernel
theorem dX3_lineFault_177 : decode cX3_lineFault 177 = .ok (.iconst 3, 1) := by decide +kernel
theorem dX3_lineFault_178 : decode cX3_lineFault 178 = .ok (.goto 8, 3) := by decide +kernel
theorem dX3_lineFault_181 : decode cX3_lineFault 181 = .ok (.aload_n 0, 1) := by decide +kernel
theorem dX3_lineFault_182 : decode cX3_lineFault 182 = .ok (.iconst 0, 1) := by decide +kernel
theorem dX3_lineFault_183 : decode cX3_lineFault 183 = .ok (.invokevirtual 135, 3) := by decide +kernel
theorem dX3_lineFault_186 : decode cX3_lineFault 186 = .ok (.ireturn, 1) := by decide +kernel
theorem dX3_lineFault_187 : decode cX3_lineFault 187 = .ok (.aload_n 0, 1) := by decide +kernel
theorem dX3_lineFault_188 : decode cX3_lineFault 188 = .ok (.getfield 23, 3) := by decide +kernel
theorem dX3_lineFault_191 : decode cX3_lineFault 191 = .ok (.getfield 145, 3) := by decide +kernel
theorem dX3_lineFault_194 : decode cX3_lineFault 194 = .ok (.invokevirtual 110, 3) := by decide +kernel
theorem dX3_lineFault_197 : decode cX3_lineFault 197 = .ok (.iconst 4, 1) := by decide +kernel
theorem dX3_lineFault_198 : decode cX3_lineFault 198 = .ok (.if_icmp .lt 7, 3) := by decide +kernel
theorem dX3_lineFault_201 : decode cX3_lineFault 201 = .ok (.iconst 5, 1) := by decide +kernel
theorem dX3_lineFault_202 : decode cX3_lineFault 202 = .ok (.goto 26, 3) := by decide +kernel
theorem dX3_lineFault_205 : decode cX3_lineFault 205 = .ok (.aload_n 0, 1) := by decide +kernel
theorem dX3_lineFault_206 : decode cX3_lineFault 206 = .ok (.iload_n 2, 1) := by decide +kernel
theorem dX3_lineFault_207 : decode cX3_lineFault 207 = .ok (.ifCond .ne 13, 3) := by decide +kernel
theorem dX3_lineFault_210 : decode cX3_lineFault 210 = .ok (.aload_n 0, 1) := by decide +kernel
theorem dX3_lineFault_211 : decode cX3_lineFault 211 = .ok (.getfield 23, 3) := by decide +kernel
theorem dX3_lineFault_214 : decode cX3_lineFault 214 = .ok (.invokevirtual 132, 3) := by decide +kernel
theorem dX3_lineFault_217 : decode cX3_lineFault 217 = .ok (.ifCond .ne 7, 3) := by decide +kernel
theorem dX3_lineFault_220 : decode cX3_lineFault 220 = .ok (.iconst 1, 1) := by decide +kernel
theorem dX3_lineFault_221 : decode cX3_lineFault 221 = .ok (.goto 4, 3) := by decide +kernel
theorem dX3_lineFault_224 : decode cX3_lineFault 224 = .ok (.iconst 0, 1) := by decide +kernel
theorem dX3_lineFault_225 : decode cX3_lineFault 225 = .ok (.invokevirtual 135, 3) := by decide +kernel
theorem dX3_lineFault_228 : decode cX3_lineFault 228 = .ok (.ireturn, 1) := by decide +kernel
theorem dX3_lineFault_229 : decode cX3_lineFault 229 = .ok (.aload_n 0, 1) := by decide +kernel
theorem dX3_lineFault_230 : decode cX3_lineFault 230 = .ok (.getfield 23, 3) := by decide +kernel
theorem dX3_lineFault_233 : decode cX3_lineFault 233 = .ok (.getfield 148, 3) := by decide +kernel
theorem dX3_lineFault_236 : decode cX3_lineFault 236 = .ok (.invokevirtual 110, 3) := by decide +kernel
theorem dX3_lineFault_239 : decode cX3_lineFault 239 = .ok (.bipush 8, 2) := by decide +kernel
theorem dX3_lineFault_241 : decode cX3_lineFault 241 = .ok (.if_icmp .lt 7, 3) := by decide +kernel
theorem dX3_lineFault_244 : decode cX3_lineFault 244 = .ok (.iconst 5, 1) := by decide +kernel
theorem dX3_lineFault_245 : decode cX3_lineFault 245 = .ok (.goto 8, 3) := by decide +kernel
theorem dX3_lineFault_248 : decode cX3_lineFault 248 = .ok (.aload_n 0, 1) := by decide +kernel
theorem dX3_lineFault_249 : decode cX3_lineFault 249 = .ok (.iload_n 2, 1) := by decide +kernel
theorem dX3_lineFault_250 : decode cX3_lineFault 250 = .ok (.invokevirtual 135, 3) := by decide +kernel
theorem dX3_lineFault_253 : decode cX3_lineFault 253 = .ok (.ireturn, 1) := by decide +kernel
theorem dX3_lineFault_254 : decode cX3_lineFault 254 = .ok (.iload_n 2, 1) := by decide +kernel
theorem dX3_lineFault_255 : decode cX3_lineFault 255 = .ok (.ifCond .eq 7, 3) := by decide +kernel
theorem dX3_lineFault_258 : decode cX3_lineFault 258 = .ok (.iconst 3, 1) := by decide +kernel
theorem dX3_lineFault_259 : decode cX3_lineFault 259 = .ok (.goto 36, 3) := by decide +kernel
theorem dX3_lineFault_262 : decode cX3_lineFault 262 = .ok (.aload_n 0, 1) := by decide +kernel
theorem dX3_lineFault_263 : decode cX3_lineFault 263 = .ok (.aload_n 0, 1) := by decide +kernel
theorem dX3_lineFault_264 : decode cX3_lineFault 264 = .ok (.getfield 23, 3) := by decide +kernel
theorem dX3_lineFault_267 : decode cX3_lineFault 267 = .ok (.invokevirtual 132, 3) := by decide +kernel
theorem dX3_lineFault_270 : decode cX3_lineFault 270 = .ok (.ifCond .eq 17, 3) := by decide +kernel
theorem dX3_lineFault_273 : decode cX3_lineFault 273 = .ok (.aload_n 0, 1) := by decide +kernel
theorem dX3_lineFault_274 : decode cX3_lineFault 274 = .ok (.getfield 23, 3) := by decide +kernel
theorem dX3_lineFault_277 : decode cX3_lineFault 277 = .ok (.getfield 148, 3) := by decide +kernel
theorem dX3_lineFault_280 : decode cX3_lineFault 280 = .ok (.invokevirtual 110, 3) := by decide +kernel
theorem dX3_lineFault_283 : decode cX3_lineFault 283 = .ok (.iconst 1, 1) := by decide +kernel
theorem dX3_lineFault_284 : decode cX3_lineFault 284 = .ok (.if_icmp .ge 7, 3) := by decide +kernel
theorem dX3_lineFault_287 : decode cX3_lineFault 287 = .ok (.iconst 1, 1) := by decide +kernel
theorem dX3_lineFault_288 : decode cX3_lineFault 288 = .ok (.goto 4, 3) := by decide +kernel
theorem dX3_lineFault_291 : decode cX3_lineFault 291 = .ok (.iconst 0, 1) := by decide +kernel
theorem dX3_lineFault_292 : decode cX3_lineFault 292 = .ok (.invokevirtual 135, 3) := by decide +kernel
theorem dX3_lineFault_295 : decode cX3_lineFault 295 = .ok (.ireturn, 1) := by decide +kernel
theorem dX3_lineFault_296 : decode cX3_lineFault 296 = .ok (.aload_n 0, 1) := by decide +kernel
theorem dX3_lineFault_297 : decode cX3_lineFault 297 = .ok (.getfield 23, 3) := by decide +kernel
theorem dX3_lineFault_300 : decode cX3_lineFault 300 = .ok (.getfield 151, 3) := by decide +kernel
theorem dX3_lineFault_303 : decode cX3_lineFault 303 = .ok (.invokevirtual 110, 3) := by decide +kernel
theorem dX3_lineFault_306 : decode cX3_lineFault 306 = .ok (.bipush 8, 2) := by decide +kernel
theorem dX3_lineFault_308 : decode cX3_lineFault 308 = .ok (.if_icmp .lt 7, 3) := by decide +kernel
theorem dX3_lineFault_311 : decode cX3_lineFault 311 = .ok (.iconst 5, 1) := by decide +kernel
theorem dX3_lineFault_312 : decode cX3_lineFault 312 = .ok (.goto 8, 3) := by decide +kernel
theorem dX3_lineFault_315 : decode cX3_lineFault 315 = .ok (.aload_n 0, 1) := by decide +kernel
theorem dX3_lineFault_316 : decode cX3_lineFault 316 = .ok (.iconst 0, 1) := by decide +kernel
theorem dX3_lineFault_317 : decode cX3_lineFault 317 = .ok (.invokevirtual 135, 3) := by decide +kernel
theorem dX3_lineFault_320 : decode cX3_lineFault 320 = .ok (.ireturn, 1) := by decide +kernel
theorem dX3_lackIf_0 : decode cX3_lackIf 0 = .ok (.iload_n 1, 1) := by decide +kernel
theorem dX3_lackIf_1 : decode cX3_lackIf 1 = .ok (.ifCond .ne 14, 3) := by decide +kernel
theorem dX3_lackIf_4 : decode cX3_lackIf 4 = .ok (.aload_n 0, 1) := by decide +kernel
theorem dX3_lackIf_5 : decode cX3_lackIf 5 = .ok (.getfield 23, 3) := by decide +kernel
theorem dX3_lackIf_8 : decode cX3_lackIf 8 = .ok (.getfield 129, 3) := by decide +kernel
theorem dX3_lackIf_11 : decode cX3_lackIf 11 = .ok (.iconst 1, 1) := by decide +kernel
theorem dX3_lackIf_12 : decode cX3_lackIf 12 = .ok (.if_icmp .ge 8, 3) := by decide +kernel
theorem dX3_lackIf_15 : decode cX3_lackIf 15 = .ok (.bipush 6, 2) := by decide +kernel
theorem dX3_lackIf_17 : decode cX3_lackIf 17 = .ok (.goto 4, 3) := by decide +kernel
theorem dX3_lackIf_20 : decode cX3_lackIf 20 = .ok (.iconst 0, 1) := by decide +kernel
theorem dX3_lackIf_21 : decode cX3_lackIf 21 = .ok (.ireturn, 1) := by decide +kernel
theorem dX3_readHall_0 : decode cX3_readHall 0 = .ok (.aload_n 0, 1) := by decide +kernel
theorem dX3_readHall_1 : decode cX3_readHall 1 = .ok (.ldc 154, 2) := by decide +kernel
theorem dX3_readHall_3 : decode cX3_readHall 3 = .ok (.invokevirtual 155, 3) := by decide +kernel
theorem dX3_readHall_6 : decode cX3_readHall 6 = .ok (.ifCond .eq 13, 3) := by decide +kernel
theorem dX3_readHall_9 : decode cX3_readHall 9 = .ok (.aload_n 0, 1) := by decide +kernel
theorem dX3_readHall_10 : decode cX3_readHall 10 = .ok (.iconst 3, 1) := by decide +kernel
theorem dX3_readHall_11 : decode cX3_readHall 11 = .ok (.bipush 8, 2) := by decide +kernel
theorem dX3_readHall_13 : decode cX3_readHall 13 = .ok (.invokevirtual 159, 3) := by decide +kernel
theorem dX3_readHall_16 : decode cX3_readHall 16 = .ok (.ifCond .ne 5, 3) := by decide +kernel
theorem dX3_readHall_19 : decode cX3_readHall 19 = .ok (.iconst 0, 1) := by decide +kernel
theorem dX3_readHall_20 : decode cX3_readHall 20 = .ok (.ireturn, 1) := by decide +kernel
theorem dX3_readHall_21 : decode cX3_readHall 21 = .ok (.aload_n 0, 1) := by decide +kernel
theorem dX3_readHall_22 : decode cX3_readHall 22 = .ok (.getfield 162, 3) := by decide +kernel
theorem dX3_readHall_25 : decode cX3_readHall 25 = .ok (.istore_n 1, 1) := by decide +kernel
theorem dX3_readHall_26 : decode cX3_readHall 26 = .ok (.aload_n 0, 1) := by decide +kernel
theorem dX3_readHall_27 : decode cX3_readHall 27 = .ok (.ldc 165, 2) := by decide +kernel
theorem dX3_readHall_29 : decode cX3_readHall 29 = .ok (.invokevirtual 155, 3) := by decide +kernel
theorem dX3_readHall_32 : decode cX3_readHall 32 = .ok (.ifCond .eq 13, 3) := by decide +kernel
theorem dX3_readHall_35 : decode cX3_readHall 35 = .ok (.aload_n 0, 1) := by decide +kernel
theorem dX3_readHall_36 : decode cX3_readHall 36 = .ok (.iconst 2, 1) := by decide +kernel
theorem dX3_readHall_37 : decode cX3_readHall 37 = .ok (.bipush 6, 2) := by decide +kernel
theorem dX3_readHall_39 : decode cX3_readHall 39 = .ok (.invokevirtual 159, 3) := by decide +kernel
theorem dX3_readHall_42 : decode cX3_readHall 42 = .ok (.ifCond .ne 5, 3) := by decide +kernel
theorem dX3_readHall_45 : decode cX3_readHall 45 = .ok (.iconst 0, 1) := by decide +kernel
theorem dX3_readHall_46 : decode cX3_readHall 46 = .ok (.ireturn, 1) := by decide +kernel
theorem dX3_readHall_47 : decode cX3_readHall 47 = .ok (.aload_n 0, 1) := by decide +kernel
theorem dX3_readHall_48 : decode cX3_readHall 48 = .ok (.getfield 162, 3) := by decide +kernel
theorem dX3_readHall_51 : decode cX3_readHall 51 = .ok (.istore_n 2, 1) := by decide +kernel
theorem dX3_readHall_52 : decode cX3_readHall 52 = .ok (.aload_n 0, 1) := by decide +kernel
theorem dX3_readHall_53 : decode cX3_readHall 53 = .ok (.ldc 167, 2) := by decide +kernel
theorem dX3_readHall_55 : decode cX3_readHall 55 = .ok (.invokevirtual 155, 3) := by decide +kernel
theorem dX3_readHall_58 : decode cX3_readHall 58 = .ok (.ifCond .eq 12, 3) := by decide +kernel
theorem dX3_readHall_61 : decode cX3_readHall 61 = .ok (.aload_n 0, 1) := by decide +kernel
theorem dX3_readHall_62 : decode cX3_readHall 62 = .ok (.ldc 169, 2) := by decide +kernel
theorem dX3_readHall_64 : decode cX3_readHall 64 = .ok (.invokevirtual 155, 3) := by decide +kernel
theorem dX3_readHall_67 : decode cX3_readHall 67 = .ok (.ifCond .ne 5, 3) := by decide +kernel
theorem dX3_readHall_70 : decode cX3_readHall 70 = .ok (.iconst 0, 1) := by decide +kernel
theorem dX3_readHall_71 : decode cX3_readHall 71 = .ok (.ireturn, 1) := by decide +kernel
theorem dX3_readHall_72 : decode cX3_readHall 72 = .ok (.aload_n 0, 1) := by decide +kernel
theorem dX3_readHall_73 : decode cX3_readHall 73 = .ok (.getfield 23, 3) := by decide +kernel
theorem dX3_readHall_76 : decode cX3_readHall 76 = .ok (.aload_n 0, 1) := by decide +kernel
theorem dX3_readHall_77 : decode cX3_readHall 77 = .ok (.getfield 162, 3) := by decide +kernel
theorem dX3_readHall_80 : decode cX3_readHall 80 = .ok (.iconst 1, 1) := by decide +kernel
theorem dX3_readHall_81 : decode cX3_readHall 81 = .ok (.if_icmp .ne 7, 3) := by decide +kernel
theorem dX3_readHall_84 : decode cX3_readHall 84 = .ok (.iconst 1, 1) := by decide +kernel
theorem dX3_readHall_85 : decode cX3_readHall 85 = .ok (.goto 4, 3) := by decide +kernel
theorem dX3_readHall_88 : decode cX3_readHall 88 = .ok (.iconst 0, 1) := by decide +kernel
theorem dX3_readHall_89 : decode cX3_readHall 89 = .ok (.putfield 171, 3) := by decide +kernel
theorem dX3_readHall_92 : decode cX3_readHall 92 = .ok (.aload_n 0, 1) := by decide +kernel
theorem dX3_readHall_93 : decode cX3_readHall 93 = .ok (.ldc 175, 2) := by decide +kernel
theorem dX3_readHall_95 : decode cX3_readHall 95 = .ok (.invokevirtual 155, 3) := by decide +kernel
theorem dX3_readHall_98 : decode cX3_readHall 98 = .ok (.ifCond .eq 12, 3) := by decide +kernel
theorem dX3_readHall_101 : decode cX3_readHall 101 = .ok (.aload_n 0, 1) := by decide +kernel
theorem dX3_readHall_102 : decode cX3_readHall 102 = .ok (.ldc 177, 2) := by decide +kernel
theorem dX3_readHall_104 : decode cX3_readHall 104 = .ok (.invokevirtual 155, 3) := by decide +kernel
theorem dX3_readHall_107 : decode cX3_readHall 107 = .ok (.ifCond .ne 5, 3) := by decide +kernel
theorem dX3_readHall_110 : decode cX3_readHall 110 = .ok (.iconst 0, 1) := by decide +kernel
theorem dX3_readHall_111 : decode cX3_readHall 111 = .ok (.ireturn, 1) := by decide +kernel
theorem dX3_readHall_112 : decode cX3_readHall 112 = .ok (.aload_n 0, 1) := by decide +kernel
theorem dX3_readHall_113 : decode cX3_readHall 113 = .ok (.getfield 23, 3) := by decide +kernel
theorem dX3_readHall_116 : decode cX3_readHall 116 = .ok (.aload_n 0, 1) := by decide +kernel
theorem dX3_readHall_117 : decode cX3_readHall 117 = .ok (.getfield 162, 3) := by decide +kernel
theorem dX3_readHall_120 : decode cX3_readHall 120 = .ok (.iconst 1, 1) := by decide +kernel
theorem dX3_readHall_121 : decode cX3_readHall 121 = .ok (.if_icmp .ne 7, 3) := by decide +kernel
theorem dX3_readHall_124 : decode cX3_readHall 124 = .ok (.iconst 1, 1) := by decide +kernel
theorem dX3_readHall_125 : decode cX3_readHall 125 = .ok (.goto 4, 3) := by decide +kernel
theorem dX3_readHall_128 : decode cX3_readHall 128 = .ok (.iconst 0, 1) := by decide +kernel
theorem dX3_readHall_129 : decode cX3_readHall 129 = .ok (.putfield 179, 3) := by decide +kernel
theorem dX3_readHall_132 : decode cX3_readHall 132 = .ok (.aload_n 0, 1) := by decide +kernel
theorem dX3_readHall_133 : decode cX3_readHall 133 = .ok (.getfield 23, 3) := by decide +kernel
theorem dX3_readHall_136 : decode cX3_readHall 136 = .ok (.iload_n 1, 1) := by decide +kernel
theorem dX3_readHall_137 : decode cX3_readHall 137 = .ok (.putfield 129, 3) := by decide +kernel
theorem dX3_readHall_140 : decode cX3_readHall 140 = .ok (.aload_n 0, 1) := by decide +kernel
theorem dX3_readHall_141 : decode cX3_readHall 141 = .ok (.getfield 23, 3) := by decide +kernel
theorem dX3_readHall_144 : decode cX3_readHall 144 = .ok (.iload_n 2, 1) := by decide +kernel
theorem dX3_readHall_145 : decode cX3_readHall 145 = .ok (.putfield 182, 3) := by decide +kernel
theorem dX3_readHall_148 : decode cX3_readHall 148 = .ok (.iconst 1, 1) := by decide +kernel
theorem dX3_readHall_149 : decode cX3_readHall 149 = .ok (.ireturn, 1) := by decide +kernel
theorem dX3_readRow_0 : decode cX3_readRow 0 = .ok (.aload_n 0, 1) := by decide +kernel
theorem dX3_readRow_1 : decode cX3_readRow 1 = .ok (.getfield 70, 3) := by decide +kernel
theorem dX3_readRow_4 : decode cX3_readRow 4 = .ok (.iconst 1, 1) := by decide +kernel
theorem dX3_readRow_5 : decode cX3_readRow 5 = .ok (.if_icmp .eq 13, 3) := by decide +kernel
theorem dX3_readRow_8 : decode cX3_readRow 8 = .ok (.aload_n 0, 1) := by decide +kernel
theorem dX3_readRow_9 : decode cX3_readRow 9 = .ok (.iconst 1, 1) := by decide +kernel
theorem dX3_readRow_10 : decode cX3_readRow 10 = .ok (.aload_n 0, 1) := by decide +kernel
theorem dX3_readRow_11 : decode cX3_readRow 11 = .ok (.getfield 80, 3) := by decide +kernel
theorem dX3_readRow_14 : decode cX3_readRow 14 = .ok (.invokevirtual 83, 3) := by decide +kernel
theorem dX3_readRow_17 : decode cX3_readRow 17 = .ok (.ireturn, 1) := by decide +kernel
theorem dX3_readRow_18 : decode cX3_readRow 18 = .ok (.aload_n 0, 1) := by decide +kernel
theorem dX3_readRow_19 : decode cX3_readRow 19 = .ok (.getfield 95, 3) := by decide +kernel
theorem dX3_readRow_22 : decode cX3_readRow 22 = .ok (.aload_n 0, 1) := by decide +kernel
theorem dX3_readRow_23 : decode cX3_readRow 23 = .ok (.getfield 80, 3) := by decide +kernel
theorem dX3_readRow_26 : decode cX3_readRow 26 = .ok (.isub, 1) := by decide +kernel
theorem dX3_readRow_27 : decode cX3_readRow 27 = .ok (.aload_n 0, 1) := by decide +kernel
theorem dX3_readRow_28 : decode cX3_readRow 28 = .ok (.getfield 23, 3) := by decide +kernel
theorem dX3_readRow_31 : decode cX3_readRow 31 = .ok (.getfield 129, 3) := by decide +kernel
theorem dX3_readRow_34 : decode cX3_readRow 34 = .ok (.if_icmp .eq 14, 3) := by decide +kernel
theorem dX3_readRow_37 : decode cX3_readRow 37 = .ok (.aload_n 0, 1) := by decide +kernel
theorem dX3_readRow_38 : decode cX3_readRow 38 = .ok (.bipush 7, 2) := by decide +kernel
theorem dX3_readRow_40 : decode cX3_readRow 40 = .ok (.aload_n 0, 1) := by decide +kernel
theorem dX3_readRow_41 : decode cX3_readRow 41 = .ok (.getfield 80, 3) := by decide +kernel
theorem dX3_readRow_44 : decode cX3_readRow 44 = .ok (.invokevirtual 83, 3) := by decide +kernel
theorem dX3_readRow_47 : decode cX3_readRow 47 = .ok (.ireturn, 1) := by decide +kernel
theorem dX3_readRow_48 : decode cX3_readRow 48 = .ok (.aload_n 0, 1) := by decide +kernel
theorem dX3_readRow_49 : decode cX3_readRow 49 = .ok (.getfield 80, 3) := by decide +kernel
theorem dX3_readRow_52 : decode cX3_readRow 52 = .ok (.istore_n 1, 1) := by decide +kernel
theorem dX3_readRow_53 : decode cX3_readRow 53 = .ok (.iload_n 1, 1) := by decide +kernel
theorem dX3_readRow_54 : decode cX3_readRow 54 = .ok (.aload_n 0, 1) := by decide +kernel
theorem dX3_readRow_55 : decode cX3_readRow 55 = .ok (.getfield 95, 3) := by decide +kernel
theorem dX3_readRow_58 : decode cX3_readRow 58 = .ok (.if_icmp .ge 79, 3) := by decide +kernel
theorem dX3_readRow_61 : decode cX3_readRow 61 = .ok (.aload_n 0, 1) := by decide +kernel
theorem dX3_readRow_62 : decode cX3_readRow 62 = .ok (.getfield 20, 3) := by decide +kernel
theorem dX3_readRow_65 : decode cX3_readRow 65 = .ok (.iload_n 1, 1) := by decide +kernel
theorem dX3_readRow_66 : decode cX3_readRow 66 = .ok (.iconst 0, 1) := by decide +kernel
theorem dX3_readRow_67 : decode cX3_readRow 67 = .ok (.invokevirtual 184, 3) := by decide +kernel
theorem dX3_readRow_70 : decode cX3_readRow 70 = .ok (.istore_n 2, 1) := by decide +kernel
theorem dX3_readRow_71 : decode cX3_readRow 71 = .ok (.iload_n 2, 1) := by decide +kernel
theorem dX3_readRow_72 : decode cX3_readRow 72 = .ok (.bipush 102, 2) := by decide +kernel
theorem dX3_readRow_74 : decode cX3_readRow 74 = .ok (.if_icmp .eq 26, 3) := by decide +kernel
theorem dX3_readRow_77 : decode cX3_readRow 77 = .ok (.iload_n 2, 1) := by decide +kernel
theorem dX3_readRow_78 : decode cX3_readRow 78 = .ok (.bipush 115, 2) := by decide +kernel
theorem dX3_readRow_80 : decode cX3_readRow 80 = .ok (.if_icmp .eq 20, 3) := by decide +kernel
theorem dX3_readRow_83 : decode cX3_readRow 83 = .ok (.iload_n 2, 1) := by decide +kernel
theorem dX3_readRow_84 : decode cX3_readRow 84 = .ok (.bipush 119, 2) := by decide +kernel
theorem dX3_readRow_86 : decode cX3_readRow 86 = .ok (.if_icmp .eq 14, 3) := by decide +kernel
theorem dX3_readRow_89 : decode cX3_readRow 89 = .ok (.aload_n 0, 1) := by decide +kernel
theorem dX3_readRow_90 : decode cX3_readRow 90 = .ok (.bipush 7, 2) := by decide +kernel
theorem dX3_readRow_92 : decode cX3_readRow 92 = .ok (.aload_n 0, 1) := by decide +kernel
theorem dX3_readRow_93 : decode cX3_readRow 93 = .ok (.getfield 80, 3) := by decide +kernel
theorem dX3_readRow_96 : decode cX3_readRow 96 = .ok (.invokevirtual 83, 3) := by decide +kernel
theorem dX3_readRow_99 : decode cX3_readRow 99 = .ok (.ireturn, 1) := by decide +kernel
theorem dX3_readRow_100 : decode cX3_readRow 100 = .ok (.aload_n 0, 1) := by decide +kernel
theorem dX3_readRow_101 : decode cX3_readRow 101 = .ok (.getfield 23, 3) := by decide +kernel
theorem dX3_readRow_104 : decode cX3_readRow 104 = .ok (.getfield 188, 3) := by decide +kernel
theorem dX3_readRow_107 : decode cX3_readRow 107 = .ok (.iload_n 2, 1) := by decide +kernel
theorem dX3_readRow_108 : decode cX3_readRow 108 = .ok (.bipush 102, 2) := by decide +kernel
theorem dX3_readRow_110 : decode cX3_readRow 110 = .ok (.if_icmp .ne 7, 3) := by decide +kernel
theorem dX3_readRow_113 : decode cX3_readRow 113 = .ok (.iconst 0, 1) := by decide +kernel
theorem dX3_readRow_114 : decode cX3_readRow 114 = .ok (.goto 14, 3) := by decide +kernel
theorem dX3_readRow_117 : decode cX3_readRow 117 = .ok (.iload_n 2, 1) := by decide +kernel
theorem dX3_readRow_118 : decode cX3_readRow 118 = .ok (.bipush 115, 2) := by decide +kernel
theorem dX3_readRow_120 : decode cX3_readRow 120 = .ok (.if_icmp .ne 7, 3) := by decide +kernel
theorem dX3_readRow_123 : decode cX3_readRow 123 = .ok (.iconst 1, 1) := by decide +kernel
theorem dX3_readRow_124 : decode cX3_readRow 124 = .ok (.goto 4, 3) := by decide +kernel
theorem dX3_readRow_127 : decode cX3_readRow 127 = .ok (.iconst 2, 1) := by decide +kernel
theorem dX3_readRow_128 : decode cX3_readRow 128 = .ok (.invokevirtual 191, 3) := by decide +kernel
theorem dX3_readRow_131 : decode cX3_readRow 131 = .ok (.iinc 1 1, 3) := by decide +kernel
theorem dX3_readRow_134 : decode cX3_readRow 134 = .ok (.goto (-81), 3) := by decide +kernel
theorem dX3_readRow_137 : decode cX3_readRow 137 = .ok (.aload_n 0, 1) := by decide +kernel
theorem dX3_readRow_138 : decode cX3_readRow 138 = .ok (.invokevirtual 104, 3) := by decide +kernel
theorem dX3_readRow_141 : decode cX3_readRow 141 = .ok (.iconst 1, 1) := by decide +kernel
theorem dX3_readRow_142 : decode cX3_readRow 142 = .ok (.ireturn, 1) := by decide +kernel
theorem dX3_readBand_0 : decode cX3_readBand 0 = .ok (.aload_n 0, 1) := by decide +kernel
theorem dX3_readBand_1 : decode cX3_readBand 1 = .ok (.invokevirtual 194, 3) := by decide +kernel
theorem dX3_readBand_4 : decode cX3_readBand 4 = .ok (.ifCond .ne 5, 3) := by decide +kernel
theorem dX3_readBand_7 : decode cX3_readBand 7 = .ok (.iconst 0, 1) := by decide +kernel
theorem dX3_readBand_8 : decode cX3_readBand 8 = .ok (.ireturn, 1) := by decide +kernel
theorem dX3_readBand_9 : decode cX3_readBand 9 = .ok (.aload_n 0, 1) := by decide +kernel
theorem dX3_readBand_10 : decode cX3_readBand 10 = .ok (.getfield 162, 3) := by decide +kernel
theorem dX3_readBand_13 : decode cX3_readBand 13 = .ok (.istore_n 1, 1) := by decide +kernel
theorem dX3_readBand_14 : decode cX3_readBand 14 = .ok (.aload_n 0, 1) := by decide +kernel
theorem dX3_readBand_15 : decode cX3_readBand 15 = .ok (.ldc 197, 2) := by decide +kernel
theorem dX3_readBand_17 : decode cX3_readBand 17 = .ok (.invokevirtual 155, 3) := by decide +kernel
theorem dX3_readBand_20 : decode cX3_readBand 20 = .ok (.ifCond .eq 13, 3) := by decide +kernel
theorem dX3_readBand_23 : decode cX3_readBand 23 = .ok (.aload_n 0, 1) := by decide +kernel
theorem dX3_readBand_24 : decode cX3_readBand 24 = .ok (.iconst 1, 1) := by decide +kernel
theorem dX3_readBand_25 : decode cX3_readBand 25 = .ok (.bipush 9, 2) := by decide +kernel
theorem dX3_readBand_27 : decode cX3_readBand 27 = .ok (.invokevirtual 159, 3) := by decide +kernel
theorem dX3_readBand_30 : decode cX3_readBand 30 = .ok (.ifCond .ne 5, 3) := by decide +kernel
theorem dX3_readBand_33 : decode cX3_readBand 33 = .ok (.iconst 0, 1) := by decide +kernel
theorem dX3_readBand_34 : decode cX3_readBand 34 = .ok (.ireturn, 1) := by decide +kernel
theorem dX3_readBand_35 : decode cX3_readBand 35 = .ok (.aload_n 0, 1) := by decide +kernel
theorem dX3_readBand_36 : decode cX3_readBand 36 = .ok (.getfield 23, 3) := by decide +kernel
theorem dX3_readBand_39 : decode cX3_readBand 39 = .ok (.aload_n 0, 1) := by decide +kernel
theorem dX3_readBand_40 : decode cX3_readBand 40 = .ok (.getfield 162, 3) := by decide +kernel
theorem dX3_readBand_43 : decode cX3_readBand 43 = .ok (.putfield 199, 3) := by decide +kernel
theorem dX3_readBand_46 : decode cX3_readBand 46 = .ok (.aload_n 0, 1) := by decide +kernel
theorem dX3_readBand_47 : decode cX3_readBand 47 = .ok (.getfield 23, 3) := by decide +kernel
theorem dX3_readBand_50 : decode cX3_readBand 50 = .ok (.iload_n 1, 1) := by decide +kernel
theorem dX3_readBand_51 : decode cX3_readBand 51 = .ok (.putfield 139, 3) := by decide +kernel
theorem dX3_readBand_54 : decode cX3_readBand 54 = .ok (.iconst 1, 1) := by decide +kernel
theorem dX3_readBand_55 : decode cX3_readBand 55 = .ok (.ireturn, 1) := by decide +kernel
theorem dX3_readHome_0 : decode cX3_readHome 0 = .ok (.aload_n 0, 1) := by decide +kernel
theorem dX3_readHome_1 : decode cX3_readHome 1 = .ok (.invokevirtual 194, 3) := by decide +kernel
theorem dX3_readHome_4 : decode cX3_readHome 4 = .ok (.ifCond .ne 5, 3) := by decide +kernel
theorem dX3_readHome_7 : decode cX3_readHome 7 = .ok (.iconst 0, 1) := by decide +kernel
theorem dX3_readHome_8 : decode cX3_readHome 8 = .ok (.ireturn, 1) := by decide +kernel
theorem dX3_readHome_9 : decode cX3_readHome 9 = .ok (.aload_n 0, 1) := by decide +kernel
theorem dX3_readHome_10 : decode cX3_readHome 10 = .ok (.getfield 23, 3) := by decide +kernel
theorem dX3_readHome_13 : decode cX3_readHome 13 = .ok (.aload_n 0, 1) := by decide +kernel
theorem dX3_readHome_14 : decode cX3_readHome 14 = .ok (.getfield 162, 3) := by decide +kernel
theorem dX3_readHome_17 : decode cX3_readHome 17 = .ok (.putfield 142, 3) := by decide +kernel
theorem dX3_readHome_20 : decode cX3_readHome 20 = .ok (.iconst 1, 1) := by decide +kernel
theorem dX3_readHome_21 : decode cX3_readHome 21 = .ok (.ireturn, 1) := by decide +kernel
theorem dX3_readSteps_0 : decode cX3_readSteps 0 = .ok (.aload_n 0, 1) := by decide +kernel
theorem dX3_readSteps_1 : decode cX3_readSteps 1 = .ok (.iconst 1, 1) := by decide +kernel
theorem dX3_readSteps_2 : decode cX3_readSteps 2 = .ok (.invokevirtual 201, 3) := by decide +kernel
theorem dX3_readSteps_5 : decode cX3_readSteps 5 = .ok (.ifCond .ne 5, 3) := by decide +kernel
theorem dX3_readSteps_8 : decode cX3_readSteps 8 = .ok (.iconst 0, 1) := by decide +kernel
theorem dX3_readSteps_9 : decode cX3_readSteps 9 = .ok (.ireturn, 1) := by decide +kernel
theorem dX3_readSteps_10 : decode cX3_readSteps 10 = .ok (.iconst 0, 1) := by decide +kernel
theorem dX3_readSteps_11 : decode cX3_readSteps 11 = .ok (.istore_n 1, 1) := by decide +kernel
theorem dX3_readSteps_12 : decode cX3_readSteps 12 = .ok (.iload_n 1, 1) := by decide +kernel
theorem dX3_readSteps_13 : decode cX3_readSteps 13 = .ok (.aload_n 0, 1) := by decide +kernel
theorem dX3_readSteps_14 : decode cX3_readSteps 14 = .ok (.getfield 31, 3) := by decide +kernel
theorem dX3_readSteps_17 : decode cX3_readSteps 17 = .ok (.if_icmp .ge 31, 3) := by decide +kernel
theorem dX3_readSteps_20 : decode cX3_readSteps 20 = .ok (.aload_n 0, 1) := by decide +kernel
theorem dX3_readSteps_21 : decode cX3_readSteps 21 = .ok (.getfield 70, 3) := by decide +kernel
theorem dX3_readSteps_24 : decode cX3_readSteps 24 = .ok (.iconst 4, 1) := by decide +kernel
theorem dX3_readSteps_25 : decode cX3_readSteps 25 = .ok (.if_icmp .ne 23, 3) := by decide +kernel
theorem dX3_readSteps_28 : decode cX3_readSteps 28 = .ok (.aload_n 0, 1) := by decide +kernel
theorem dX3_readSteps_29 : decode cX3_readSteps 29 = .ok (.invokevirtual 104, 3) := by decide +kernel
theorem dX3_readSteps_32 : decode cX3_readSteps 32 = .ok (.aload_n 0, 1) := by decide +kernel
theorem dX3_readSteps_33 : decode cX3_readSteps 33 = .ok (.iconst 1, 1) := by decide +kernel
theorem dX3_readSteps_34 : decode cX3_readSteps 34 = .ok (.invokevirtual 201, 3) := by decide +kernel
theorem dX3_readSteps_37 : decode cX3_readSteps 37 = .ok (.ifCond .ne 5, 3) := by decide +kernel
theorem dX3_readSteps_40 : decode cX3_readSteps 40 = .ok (.iconst 0, 1) := by decide +kernel
theorem dX3_readSteps_41 : decode cX3_readSteps 41 = .ok (.ireturn, 1) := by decide +kernel
theorem dX3_readSteps_42 : decode cX3_readSteps 42 = .ok (.iinc 1 1, 3) := by decide +kernel
theorem dX3_readSteps_45 : decode cX3_readSteps 45 = .ok (.goto (-33), 3) := by decide +kernel
theorem dX3_readSteps_48 : decode cX3_readSteps 48 = .ok (.iconst 1, 1) := by decide +kernel
theorem dX3_readSteps_49 : decode cX3_readSteps 49 = .ok (.ireturn, 1) := by decide +kernel
theorem dX3_readLeads_0 : decode cX3_readLeads 0 = .ok (.aload_n 0, 1) := by decide +kernel
theorem dX3_readLeads_1 : decode cX3_readLeads 1 = .ok (.ldc 205, 2) := by decide +kernel
theorem dX3_readLeads_3 : decode cX3_readLeads 3 = .ok (.invokevirtual 155, 3) := by decide +kernel
theorem dX3_readLeads_6 : decode cX3_readLeads 6 = .ok (.ifCond .ne 5, 3) := by decide +kernel
theorem dX3_readLeads_9 : decode cX3_readLeads 9 = .ok (.iconst 0, 1) := by decide +kernel
theorem dX3_readLeads_10 : decode cX3_readLeads 10 = .ok (.ireturn, 1) := by decide +kernel
theorem dX3_readLeads_11 : decode cX3_readLeads 11 = .ok (.aload_n 0, 1) := by decide +kernel
theorem dX3_readLeads_12 : decode cX3_readLeads 12 = .ok (.getfield 23, 3) := by decide +kernel
theorem dX3_readLeads_15 : decode cX3_readLeads 15 = .ok (.aload_n 0, 1) := by decide +kernel
theorem dX3_readLeads_16 : decode cX3_readLeads 16 = .ok (.getfield 162, 3) := by decide +kernel
theorem dX3_readLeads_19 : decode cX3_readLeads 19 = .ok (.putfield 113, 3) := by decide +kernel
theorem dX3_readLeads_22 : decode cX3_readLeads 22 = .ok (.aload_n 0, 1) := by decide +kernel
theorem dX3_readLeads_23 : decode cX3_readLeads 23 = .ok (.getfield 162, 3) := by decide +kernel
theorem dX3_readLeads_26 : decode cX3_readLeads 26 = .ok (.iconst 5, 1) := by decide +kernel
theorem dX3_readLeads_27 : decode cX3_readLeads 27 = .ok (.if_icmp .eq 5, 3) := by decide +kernel
theorem dX3_readLeads_30 : decode cX3_readLeads 30 = .ok (.iconst 1, 1) := by decide +kernel
theorem dX3_readLeads_31 : decode cX3_readLeads 31 = .ok (.ireturn, 1) := by decide +kernel
theorem dX3_readLeads_32 : decode cX3_readLeads 32 = .ok (.aload_n 0, 1) := by decide +kernel
theorem dX3_readLeads_33 : decode cX3_readLeads 33 = .ok (.iconst 0, 1) := by decide +kernel
theorem dX3_readLeads_34 : decode cX3_readLeads 34 = .ok (.invokevirtual 201, 3) := by decide +kernel
theorem dX3_readLeads_37 : decode cX3_readLeads 37 = .ok (.ifCond .ne 5, 3) := by decide +kernel
theorem dX3_readLeads_40 : decode cX3_readLeads 40 = .ok (.iconst 0, 1) := by decide +kernel
theorem dX3_readLeads_41 : decode cX3_readLeads 41 = .ok (.ireturn, 1) := by decide +kernel
theorem dX3_readLeads_42 : decode cX3_readLeads 42 = .ok (.iconst 0, 1) := by decide +kernel
theorem dX3_readLeads_43 : decode cX3_readLeads 43 = .ok (.istore_n 1, 1) := by decide +kernel
theorem dX3_readLeads_44 : decode cX3_readLeads 44 = .ok (.iload_n 1, 1) := by decide +kernel
theorem dX3_readLeads_45 : decode cX3_readLeads 45 = .ok (.aload_n 0, 1) := by decide +kernel
theorem dX3_readLeads_46 : decode cX3_readLeads 46 = .ok (.getfield 31, 3) := by decide +kernel
theorem dX3_readLeads_49 : decode cX3_readLeads 49 = .ok (.if_icmp .ge 31, 3) := by decide +kernel
theorem dX3_readLeads_52 : decode cX3_readLeads 52 = .ok (.aload_n 0, 1) := by decide +kernel
theorem dX3_readLeads_53 : decode cX3_readLeads 53 = .ok (.getfield 70, 3) := by decide +kernel
theorem dX3_readLeads_56 : decode cX3_readLeads 56 = .ok (.iconst 4, 1) := by decide +kernel
theorem dX3_readLeads_57 : decode cX3_readLeads 57 = .ok (.if_icmp .ne 23, 3) := by decide +kernel
theorem dX3_readLeads_60 : decode cX3_readLeads 60 = .ok (.aload_n 0, 1) := by decide +kernel
theorem dX3_readLeads_61 : decode cX3_readLeads 61 = .ok (.invokevirtual 104, 3) := by decide +kernel
theorem dX3_readLeads_64 : decode cX3_readLeads 64 = .ok (.aload_n 0, 1) := by decide +kernel
theorem dX3_readLeads_65 : decode cX3_readLeads 65 = .ok (.iconst 0, 1) := by decide +kernel
theorem dX3_readLeads_66 : decode cX3_readLeads 66 = .ok (.invokevirtual 201, 3) := by decide +kernel
theorem dX3_readLeads_69 : decode cX3_readLeads 69 = .ok (.ifCond .ne 5, 3) := by decide +kernel
theorem dX3_readLeads_72 : decode cX3_readLeads 72 = .ok (.iconst 0, 1) := by decide +kernel
theorem dX3_readLeads_73 : decode cX3_readLeads 73 = .ok (.ireturn, 1) := by decide +kernel
theorem dX3_readLeads_74 : decode cX3_readLeads 74 = .ok (.iinc 1 1, 3) := by decide +kernel
theorem dX3_readLeads_77 : decode cX3_readLeads 77 = .ok (.goto (-33), 3) := by decide +kernel
theorem dX3_readLeads_80 : decode cX3_readLeads 80 = .ok (.iconst 1, 1) := by decide +kernel
theorem dX3_readLeads_81 : decode cX3_readLeads 81 = .ok (.ireturn, 1) := by decide +kernel
theorem dX3_readListed_0 : decode cX3_readListed 0 = .ok (.aload_n 0, 1) := by decide +kernel
theorem dX3_readListed_1 : decode cX3_readListed 1 = .ok (.getfield 80, 3) := by decide +kernel
theorem dX3_readListed_4 : decode cX3_readListed 4 = .ok (.istore_n 2, 1) := by decide +kernel
theorem dX3_readListed_5 : decode cX3_readListed 5 = .ok (.iload_n 1, 1) := by decide +kernel
theorem dX3_readListed_6 : decode cX3_readListed 6 = .ok (.ifCond .eq 15, 3) := by decide +kernel
theorem dX3_readListed_9 : decode cX3_readListed 9 = .ok (.aload_n 0, 1) := by decide +kernel
theorem dX3_readListed_10 : decode cX3_readListed 10 = .ok (.iconst 0, 1) := by decide +kernel
theorem dX3_readListed_11 : decode cX3_readListed 11 = .ok (.iconst 3, 1) := by decide +kernel
theorem dX3_readListed_12 : decode cX3_readListed 12 = .ok (.invokevirtual 159, 3) := by decide +kernel
theorem dX3_readListed_15 : decode cX3_readListed 15 = .ok (.ifCond .ne 17, 3) := by decide +kernel
theorem dX3_readListed_18 : decode cX3_readListed 18 = .ok (.goto 12, 3) := by decide +kernel
theorem dX3_readListed_21 : decode cX3_readListed 21 = .ok (.aload_n 0, 1) := by decide +kernel
theorem dX3_readListed_22 : decode cX3_readListed 22 = .ok (.ldc 209, 2) := by decide +kernel
theorem dX3_readListed_24 : decode cX3_readListed 24 = .ok (.invokevirtual 155, 3) := by decide +kernel
theorem dX3_readListed_27 : decode cX3_readListed 27 = .ok (.ifCond .ne 5, 3) := by decide +kernel
theorem dX3_readListed_30 : decode cX3_readListed 30 = .ok (.iconst 0, 1) := by decide +kernel
theorem dX3_readListed_31 : decode cX3_readListed 31 = .ok (.ireturn, 1) := by decide +kernel
theorem dX3_readListed_32 : decode cX3_readListed 32 = .ok (.iload_n 1, 1) := by decide +kernel
theorem dX3_readListed_33 : decode cX3_readListed 33 = .ok (.ifCond .eq 21, 3) := by decide +kernel
theorem dX3_readListed_36 : decode cX3_readListed 36 = .ok (.aload_n 0, 1) := by decide +kernel
theorem dX3_readListed_37 : decode cX3_readListed 37 = .ok (.getfield 23, 3) := by decide +kernel
theorem dX3_readListed_40 : decode cX3_readListed 40 = .ok (.getfield 107, 3) := by decide +kernel
theorem dX3_readListed_43 : decode cX3_readListed 43 = .ok (.invokevirtual 110, 3) := by decide +kernel
theorem dX3_readListed_46 : decode cX3_readListed 46 = .ok (.bipush 8, 2) := by decide +kernel
theorem dX3_readListed_48 : decode cX3_readListed 48 = .ok (.if_icmp .lt 28, 3) := by decide +kernel
theorem dX3_readListed_51 : decode cX3_readListed 51 = .ok (.goto 18, 3) := by decide +kernel
theorem dX3_readListed_54 : decode cX3_readListed 54 = .ok (.aload_n 0, 1) := by decide +kernel
theorem dX3_readListed_55 : decode cX3_readListed 55 = .ok (.getfield 23, 3) := by decide +kernel
theorem dX3_readListed_58 : decode cX3_readListed 58 = .ok (.getfield 211, 3) := by decide +kernel
theorem dX3_readListed_61 : decode cX3_readListed 61 = .ok (.invokevirtual 110, 3) := by decide +kernel
theorem dX3_readListed_64 : decode cX3_readListed 64 = .ok (.bipush 12, 2) := by decide +kernel
theorem dX3_readListed_66 : decode cX3_readListed 66 = .ok (.if_icmp .lt 10, 3) := by decide +kernel
theorem dX3_readListed_69 : decode cX3_readListed 69 = .ok (.aload_n 0, 1) := by decide +kernel
theorem dX3_readListed_70 : decode cX3_readListed 70 = .ok (.iconst 5, 1) := by decide +kernel
theorem dX3_readListed_71 : decode cX3_readListed 71 = .ok (.iload_n 2, 1) := by decide +kernel
theorem dX3_readListed_72 : decode cX3_readListed 72 = .ok (.invokevirtual 83, 3) := by decide +kernel
theorem dX3_readListed_75 : decode cX3_readListed 75 = .ok (.ireturn, 1) := by decide +kernel
theorem dX3_readListed_76 : decode cX3_readListed 76 = .ok (.iload_n 1, 1) := by decide +kernel
theorem dX3_readListed_77 : decode cX3_readListed 77 = .ok (.ifCond .eq 20, 3) := by decide +kernel
theorem dX3_readListed_80 : decode cX3_readListed 80 = .ok (.aload_n 0, 1) := by decide +kernel
theorem dX3_readListed_81 : decode cX3_readListed 81 = .ok (.getfield 23, 3) := by decide +kernel
theorem dX3_readListed_84 : decode cX3_readListed 84 = .ok (.getfield 107, 3) := by decide +kernel
theorem dX3_readListed_87 : decode cX3_readListed 87 = .ok (.aload_n 0, 1) := by decide +kernel
theorem dX3_readListed_88 : decode cX3_readListed 88 = .ok (.getfield 162, 3) := by decide +kernel
theorem dX3_readListed_91 : decode cX3_readListed 91 = .ok (.invokevirtual 191, 3) := by decide +kernel
theorem dX3_readListed_94 : decode cX3_readListed 94 = .ok (.goto 17, 3) := by decide +kernel
theorem dX3_readListed_97 : decode cX3_readListed 97 = .ok (.aload_n 0, 1) := by decide +kernel
theorem dX3_readListed_98 : decode cX3_readListed 98 = .ok (.getfield 23, 3) := by decide +kernel
theorem dX3_readListed_101 : decode cX3_readListed 101 = .ok (.getfield 211, 3) := by decide +kernel
theorem dX3_readListed_104 : decode cX3_readListed 104 = .ok (.aload_n 0, 1) := by decide +kernel
theorem dX3_readListed_105 : decode cX3_readListed 105 = .ok (.getfield 162, 3) := by decide +kernel
theorem dX3_readListed_108 : decode cX3_readListed 108 = .ok (.invokevirtual 191, 3) := by decide +kernel
theorem dX3_readListed_111 : decode cX3_readListed 111 = .ok (.iconst 1, 1) := by decide +kernel
theorem dX3_readListed_112 : decode cX3_readListed 112 = .ok (.ireturn, 1) := by decide +kernel
theorem dX3_readTable_0 : decode cX3_readTable 0 = .ok (.aload_n 0, 1) := by decide +kernel
theorem dX3_readTable_1 : decode cX3_readTable 1 = .ok (.invokevirtual 214, 3) := by decide +kernel
theorem dX3_readTable_4 : decode cX3_readTable 4 = .ok (.ifCond .eq 19, 3) := by decide +kernel
theorem dX3_readTable_7 : decode cX3_readTable 7 = .ok (.aload_n 0, 1) := by decide +kernel
theorem dX3_readTable_8 : decode cX3_readTable 8 = .ok (.ldc 217, 2) := by decide +kernel
theorem dX3_readTable_10 : decode cX3_readTable 10 = .ok (.invokevirtual 155, 3) := by decide +kernel
theorem dX3_readTable_13 : decode cX3_readTable 13 = .ok (.ifCond .eq 10, 3) := by decide +kernel
theorem dX3_readTable_16 : decode cX3_readTable 16 = .ok (.aload_n 0, 1) := by decide +kernel
theorem dX3_readTable_17 : decode cX3_readTable 17 = .ok (.invokevirtual 194, 3) := by decide +kernel
theorem dX3_readTable_20 : decode cX3_readTable 20 = .ok (.ifCond .ne 5, 3) := by decide +kernel
theorem dX3_readTable_23 : decode cX3_readTable 23 = .ok (.iconst 0, 1) := by decide +kernel
theorem dX3_readTable_24 : decode cX3_readTable 24 = .ok (.ireturn, 1) := by decide +kernel
theorem dX3_readTable_25 : decode cX3_readTable 25 = .ok (.aload_n 0, 1) := by decide +kernel
theorem dX3_readTable_26 : decode cX3_readTable 26 = .ok (.getfield 162, 3) := by decide +kernel
theorem dX3_readTable_29 : decode cX3_readTable 29 = .ok (.istore_n 1, 1) := by decide +kernel
theorem dX3_readTable_30 : decode cX3_readTable 30 = .ok (.aload_n 0, 1) := by decide +kernel
theorem dX3_readTable_31 : decode cX3_readTable 31 = .ok (.getfield 23, 3) := by decide +kernel
theorem dX3_readTable_34 : decode cX3_readTable 34 = .ok (.getfield 188, 3) := by decide +kernel
theorem dX3_readTable_37 : decode cX3_readTable 37 = .ok (.iload_n 1, 1) := by decide +kernel
theorem dX3_readTable_38 : decode cX3_readTable 38 = .ok (.iconst 0, 1) := by decide +kernel
theorem dX3_readTable_39 : decode cX3_readTable 39 = .ok (.invokevirtual 184, 3) := by decide +kernel
theorem dX3_readTable_42 : decode cX3_readTable 42 = .ok (.iconst 3, 1) := by decide +kernel
theorem dX3_readTable_43 : decode cX3_readTable 43 = .ok (.if_icmp .ne 13, 3) := by decide +kernel
theorem dX3_readTable_46 : decode cX3_readTable 46 = .ok (.aload_n 0, 1) := by decide +kernel
theorem dX3_readTable_47 : decode cX3_readTable 47 = .ok (.iconst 3, 1) := by decide +kernel
theorem dX3_readTable_48 : decode cX3_readTable 48 = .ok (.aload_n 0, 1) := by decide +kernel
theorem dX3_readTable_49 : decode cX3_readTable 49 = .ok (.getfield 219, 3) := by decide +kernel
theorem dX3_readTable_52 : decode cX3_readTable 52 = .ok (.invokevirtual 83, 3) := by decide +kernel
theorem dX3_readTable_55 : decode cX3_readTable 55 = .ok (.ireturn, 1) := by decide +kernel
theorem dX3_readTable_56 : decode cX3_readTable 56 = .ok (.aload_n 0, 1) := by decide +kernel
theorem dX3_readTable_57 : decode cX3_readTable 57 = .ok (.getfield 23, 3) := by decide +kernel
theorem dX3_readTable_60 : decode cX3_readTable 60 = .ok (.getfield 188, 3) := by decide +kernel
theorem dX3_readTable_63 : decode cX3_readTable 63 = .ok (.iload_n 1, 1) := by decide +kernel
theorem dX3_readTable_64 : decode cX3_readTable 64 = .ok (.iconst 0, 1) := by decide +kernel
theorem dX3_readTable_65 : decode cX3_readTable 65 = .ok (.invokevirtual 184, 3) := by decide +kernel
theorem dX3_readTable_68 : decode cX3_readTable 68 = .ok (.iconst 2, 1) := by decide +kernel
theorem dX3_readTable_69 : decode cX3_readTable 69 = .ok (.if_icmp .ne 14, 3) := by decide +kernel
theorem dX3_readTable_72 : decode cX3_readTable 72 = .ok (.aload_n 0, 1) := by decide +kernel
theorem dX3_readTable_73 : decode cX3_readTable 73 = .ok (.bipush 7, 2) := by decide +kernel
theorem dX3_readTable_75 : decode cX3_readTable 75 = .ok (.aload_n 0, 1) := by decide +kernel
theorem dX3_readTable_76 : decode cX3_readTable 76 = .ok (.getfield 219, 3) := by decide +kernel
theorem dX3_readTable_79 : decode cX3_readTable 79 = .ok (.invokevirtual 83, 3) := by decide +kernel
theorem dX3_readTable_82 : decode cX3_readTable 82 = .ok (.ireturn, 1) := by decide +kernel
theorem dX3_readTable_83 : decode cX3_readTable 83 = .ok (.aload_n 0, 1) := by decide +kernel
theorem dX3_readTable_84 : decode cX3_readTable 84 = .ok (.getfield 23, 3) := by decide +kernel
theorem dX3_readTable_87 : decode cX3_readTable 87 = .ok (.getfield 145, 3) := by decide +kernel
theorem dX3_readTable_90 : decode cX3_readTable 90 = .ok (.invokevirtual 110, 3) := by decide +kernel
theorem dX3_readTable_93 : decode cX3_readTable 93 = .ok (.istore_n 2, 1) := by decide +kernel
theorem dX3_readTable_94 : decode cX3_readTable 94 = .ok (.aload_n 0, 1) := by decide +kernel
theorem dX3_readTable_95 : decode cX3_readTable 95 = .ok (.getfield 23, 3) := by decide +kernel
theorem dX3_readTable_98 : decode cX3_readTable 98 = .ok (.getfield 145, 3) := by decide +kernel
theorem dX3_readTable_101 : decode cX3_readTable 101 = .ok (.iload_n 1, 1) := by decide +kernel
theorem dX3_readTable_102 : decode cX3_readTable 102 = .ok (.invokevirtual 191, 3) := by decide +kernel
theorem dX3_readTable_105 : decode cX3_readTable 105 = .ok (.aload_n 0, 1) := by decide +kernel
theorem dX3_readTable_106 : decode cX3_readTable 106 = .ok (.getfield 23, 3) := by decide +kernel
theorem dX3_readTable_109 : decode cX3_readTable 109 = .ok (.getfield 188, 3) := by decide +kernel
theorem dX3_readTable_112 : decode cX3_readTable 112 = .ok (.iload_n 1, 1) := by decide +kernel
theorem dX3_readTable_113 : decode cX3_readTable 113 = .ok (.iconst 0, 1) := by decide +kernel
theorem dX3_readTable_114 : decode cX3_readTable 114 = .ok (.iconst 3, 1) := by decide +kernel
theorem dX3_readTable_115 : decode cX3_readTable 115 = .ok (.invokevirtual 222, 3) := by decide +kernel
theorem dX3_readTable_118 : decode cX3_readTable 118 = .ok (.aload_n 0, 1) := by decide +kernel
theorem dX3_readTable_119 : decode cX3_readTable 119 = .ok (.ldc 226, 2) := by decide +kernel
theorem dX3_readTable_121 : decode cX3_readTable 121 = .ok (.invokevirtual 155, 3) := by decide +kernel
theorem dX3_readTable_124 : decode cX3_readTable 124 = .ok (.ifCond .eq 13, 3) := by decide +kernel
theorem dX3_readTable_127 : decode cX3_readTable 127 = .ok (.aload_n 0, 1) := by decide +kernel
theorem dX3_readTable_128 : decode cX3_readTable 128 = .ok (.iconst 1, 1) := by decide +kernel
theorem dX3_readTable_129 : decode cX3_readTable 129 = .ok (.bipush 9, 2) := by decide +kernel
theorem dX3_readTable_131 : decode cX3_readTable 131 = .ok (.invokevirtual 159, 3) := by decide +kernel
theorem dX3_readTable_134 : decode cX3_readTable 134 = .ok (.ifCond .ne 5, 3) := by decide +kernel
theorem dX3_readTable_137 : decode cX3_readTable 137 = .ok (.iconst 0, 1) := by decide +kernel
theorem dX3_readTable_138 : decode cX3_readTable 138 = .ok (.ireturn, 1) := by decide +kernel
theorem dX3_readTable_139 : decode cX3_readTable 139 = .ok (.aload_n 0, 1) := by decide +kernel
theorem dX3_readTable_140 : decode cX3_readTable 140 = .ok (.getfield 23, 3) := by decide +kernel
theorem dX3_readTable_143 : decode cX3_readTable 143 = .ok (.getfield 145, 3) := by decide +kernel
theorem dX3_readTable_146 : decode cX3_readTable 146 = .ok (.iload_n 2, 1) := by decide +kernel
theorem dX3_readTable_147 : decode cX3_readTable 147 = .ok (.iconst 5, 1) := by decide +kernel
theorem dX3_readTable_148 : decode cX3_readTable 148 = .ok (.aload_n 0, 1) := by decide +kernel
theorem dX3_readTable_149 : decode cX3_readTable 149 = .ok (.getfield 162, 3) := by decide +kernel
theorem dX3_readTable_152 : decode cX3_readTable 152 = .ok (.invokevirtual 222, 3) := by decide +kernel
theorem dX3_readTable_155 : decode cX3_readTable 155 = .ok (.aload_n 0, 1) := by decide +kernel
theorem dX3_readTable_156 : decode cX3_readTable 156 = .ok (.aload_n 0, 1) := by decide +kernel
theorem dX3_readTable_157 : decode cX3_readTable 157 = .ok (.getfield 23, 3) := by decide +kernel
theorem dX3_readTable_160 : decode cX3_readTable 160 = .ok (.getfield 145, 3) := by decide +kernel
theorem dX3_readTable_163 : decode cX3_readTable 163 = .ok (.iload_n 2, 1) := by decide +kernel
theorem dX3_readTable_164 : decode cX3_readTable 164 = .ok (.iconst 1, 1) := by decide +kernel
theorem dX3_readTable_165 : decode cX3_readTable 165 = .ok (.invokevirtual 228, 3) := by decide +kernel
theorem dX3_readTable_168 : decode cX3_readTable 168 = .ok (.ifCond .ne 5, 3) := by decide +kernel
theorem dX3_readTable_171 : decode cX3_readTable 171 = .ok (.iconst 0, 1) := by decide +kernel
theorem dX3_readTable_172 : decode cX3_readTable 172 = .ok (.ireturn, 1) := by decide +kernel
theorem dX3_readTable_173 : decode cX3_readTable 173 = .ok (.aload_n 0, 1) := by decide +kernel
theorem dX3_readTable_174 : decode cX3_readTable 174 = .ok (.ldc 232, 2) := by decide +kernel
theorem dX3_readTable_176 : decode cX3_readTable 176 = .ok (.invokevirtual 155, 3) := by decide +kernel
theorem dX3_readTable_179 : decode cX3_readTable 179 = .ok (.ifCond .eq 13, 3) := by decide +kernel
theorem dX3_readTable_182 : decode cX3_readTable 182 = .ok (.aload_n 0, 1) := by decide +kernel
theorem dX3_readTable_183 : decode cX3_readTable 183 = .ok (.iconst 0, 1) := by decide +kernel
theorem dX3_readTable_184 : decode cX3_readTable 184 = .ok (.bipush 100, 2) := by decide +kernel
theorem dX3_readTable_186 : decode cX3_readTable 186 = .ok (.invokevirtual 159, 3) := by decide +kernel
theorem dX3_readTable_189 : decode cX3_readTable 189 = .ok (.ifCond .ne 5, 3) := by decide +kernel
theorem dX3_readTable_192 : decode cX3_readTable 192 = .ok (.iconst 0, 1) := by decide +kernel
theorem dX3_readTable_193 : decode cX3_readTable 193 = .ok (.ireturn, 1) := by decide +kernel
theorem dX3_readTable_194 : decode cX3_readTable 194 = .ok (.aload_n 0, 1) := by decide +kernel
theorem dX3_readTable_195 : decode cX3_readTable 195 = .ok (.getfield 23, 3) := by decide +kernel
theorem dX3_readTable_198 : decode cX3_readTable 198 = .ok (.getfield 145, 3) := by decide +kernel
theorem dX3_readTable_201 : decode cX3_readTable 201 = .ok (.iload_n 2, 1) := by decide +kernel
theorem dX3_readTable_202 : decode cX3_readTable 202 = .ok (.iconst 4, 1) := by decide +kernel
theorem dX3_readTable_203 : decode cX3_readTable 203 = .ok (.aload_n 0, 1) := by decide +kernel
theorem dX3_readTable_204 : decode cX3_readTable 204 = .ok (.getfield 162, 3) := by decide +kernel
theorem dX3_readTable_207 : decode cX3_readTable 207 = .ok (.invokevirtual 222, 3) := by decide +kernel
theorem dX3_readTable_210 : decode cX3_readTable 210 = .ok (.iconst 1, 1) := by decide +kernel
theorem dX3_readTable_211 : decode cX3_readTable 211 = .ok (.ireturn, 1) := by decide +kernel
theorem dX3_readName_0 : decode cX3_readName 0 = .ok (.aload_n 0, 1) := by decide +kernel
theorem dX3_readName_1 : decode cX3_readName 1 = .ok (.getfield 70, 3) := by decide +kernel
theorem dX3_readName_4 : decode cX3_readName 4 = .ok (.iconst 1, 1) := by decide +kernel
theorem dX3_readName_5 : decode cX3_readName 5 = .ok (.if_icmp .ne 12, 3) := by decide +kernel
theorem dX3_readName_8 : decode cX3_readName 8 = .ok (.aload_n 0, 1) := by decide +kernel
theorem dX3_readName_9 : decode cX3_readName 9 = .ok (.ldc 119, 2) := by decide +kernel
theorem dX3_readName_11 : decode cX3_readName 11 = .ok (.invokevirtual 121, 3) := by decide +kernel
theorem dX3_readName_14 : decode cX3_readName 14 = .ok (.ifCond .lt 13, 3) := by decide +kernel
theorem dX3_readName_17 : decode cX3_readName 17 = .ok (.aload_n 0, 1) := by decide +kernel
theorem dX3_readName_18 : decode cX3_readName 18 = .ok (.iconst 1, 1) := by decide +kernel
theorem dX3_readName_19 : decode cX3_readName 19 = .ok (.aload_n 0, 1) := by decide +kernel
theorem dX3_readName_20 : decode cX3_readName 20 = .ok (.getfield 80, 3) := by decide +kernel
theorem dX3_readName_23 : decode cX3_readName 23 = .ok (.invokevirtual 83, 3) := by decide +kernel
theorem dX3_readName_26 : decode cX3_readName 26 = .ok (.ireturn, 1) := by decide +kernel
theorem dX3_readName_27 : decode cX3_readName 27 = .ok (.iconst 0, 1) := by decide +kernel
theorem dX3_readName_28 : decode cX3_readName 28 = .ok (.istore_n 1, 1) := by decide +kernel
theorem dX3_readName_29 : decode cX3_readName 29 = .ok (.iload_n 1, 1) := by decide +kernel
theorem dX3_readName_30 : decode cX3_readName 30 = .ok (.aload_n 0, 1) := by decide +kernel
theorem dX3_readName_31 : decode cX3_readName 31 = .ok (.getfield 14, 3) := by decide +kernel
theorem dX3_readName_34 : decode cX3_readName 34 = .ok (.invokevirtual 110, 3) := by decide +kernel
theorem dX3_readName_37 : decode cX3_readName 37 = .ok (.if_icmp .ge 44, 3) := by decide +kernel
theorem dX3_readName_40 : decode cX3_readName 40 = .ok (.aload_n 0, 1) := by decide +kernel
theorem dX3_readName_41 : decode cX3_readName 41 = .ok (.aload_n 0, 1) := by decide +kernel
theorem dX3_readName_42 : decode cX3_readName 42 = .ok (.getfield 14, 3) := by decide +kernel
theorem dX3_readName_45 : decode cX3_readName 45 = .ok (.iload_n 1, 1) := by decide +kernel
theorem dX3_readName_46 : decode cX3_readName 46 = .ok (.iconst 0, 1) := by decide +kernel
theorem dX3_readName_47 : decode cX3_readName 47 = .ok (.invokevirtual 184, 3) := by decide +kernel
theorem dX3_readName_50 : decode cX3_readName 50 = .ok (.aload_n 0, 1) := by decide +kernel
theorem dX3_readName_51 : decode cX3_readName 51 = .ok (.getfield 14, 3) := by decide +kernel
theorem dX3_readName_54 : decode cX3_readName 54 = .ok (.iload_n 1, 1) := by decide +kernel
theorem dX3_readName_55 : decode cX3_readName 55 = .ok (.iconst 1, 1) := by decide +kernel
theorem dX3_readName_56 : decode cX3_readName 56 = .ok (.invokevirtual 184, 3) := by decide +kernel
theorem dX3_readName_59 : decode cX3_readName 59 = .ok (.invokevirtual 234, 3) := by decide +kernel
theorem dX3_readName_62 : decode cX3_readName 62 = .ok (.ifCond .eq 13, 3) := by decide +kernel
theorem dX3_readName_65 : decode cX3_readName 65 = .ok (.aload_n 0, 1) := by decide +kernel
theorem dX3_readName_66 : decode cX3_readName 66 = .ok (.iconst 3, 1) := by decide +kernel
theorem dX3_readName_67 : decode cX3_readName 67 = .ok (.aload_n 0, 1) := by decide +kernel
theorem dX3_readName_68 : decode cX3_readName 68 = .ok (.getfield 80, 3) := by decide +kernel
theorem dX3_readName_71 : decode cX3_readName 71 = .ok (.invokevirtual 83, 3) := by decide +kernel
theorem dX3_readName_74 : decode cX3_readName 74 = .ok (.ireturn, 1) := by decide +kernel
theorem dX3_readName_75 : decode cX3_readName 75 = .ok (.iinc 1 1, 3) := by decide +kernel
theorem dX3_readName_78 : decode cX3_readName 78 = .ok (.goto (-49), 3) := by decide +kernel
theorem dX3_readName_81 : decode cX3_readName 81 = .ok (.aload_n 0, 1) := by decide +kernel
theorem dX3_readName_82 : decode cX3_readName 82 = .ok (.getfield 14, 3) := by decide +kernel
theorem dX3_readName_85 : decode cX3_readName 85 = .ok (.aload_n 0, 1) := by decide +kernel
theorem dX3_readName_86 : decode cX3_readName 86 = .ok (.getfield 80, 3) := by decide +kernel
theorem dX3_readName_89 : decode cX3_readName 89 = .ok (.invokevirtual 191, 3) := by decide +kernel
theorem dX3_readName_92 : decode cX3_readName 92 = .ok (.aload_n 0, 1) := by decide +kernel
theorem dX3_readName_93 : decode cX3_readName 93 = .ok (.getfield 14, 3) := by decide +kernel
theorem dX3_readName_96 : decode cX3_readName 96 = .ok (.aload_n 0, 1) := by decide +kernel
theorem dX3_readName_97 : decode cX3_readName 97 = .ok (.getfield 14, 3) := by decide +kernel
theorem dX3_readName_100 : decode cX3_readName 100 = .ok (.invokevirtual 110, 3) := by decide +kernel
theorem dX3_readName_103 : decode cX3_readName 103 = .ok (.iconst 1, 1) := by decide +kernel
theorem dX3_readName_104 : decode cX3_readName 104 = .ok (.isub, 1) := by decide +kernel
theorem dX3_readName_105 : decode cX3_readName 105 = .ok (.iconst 1, 1) := by decide +kernel
theorem dX3_readName_106 : decode cX3_readName 106 = .ok (.aload_n 0, 1) := by decide +kernel
theorem dX3_readName_107 : decode cX3_readName 107 = .ok (.getfield 95, 3) := by decide +kernel
theorem dX3_readName_110 : decode cX3_readName 110 = .ok (.invokevirtual 222, 3) := by decide +kernel
theorem dX3_readName_113 : decode cX3_readName 113 = .ok (.aload_n 0, 1) := by decide +kernel
theorem dX3_readName_114 : decode cX3_readName 114 = .ok (.invokevirtual 104, 3) := by decide +kernel
theorem dX3_readName_117 : decode cX3_readName 117 = .ok (.iconst 1, 1) := by decide +kernel
theorem dX3_readName_118 : decode cX3_readName 118 = .ok (.ireturn, 1) := by decide +kernel
theorem dX3_sameName_0 : decode cX3_sameName 0 = .ok (.iload_n 2, 1) := by decide +kernel
theorem dX3_sameName_1 : decode cX3_sameName 1 = .ok (.iload_n 1, 1) := by decide +kernel
theorem dX3_sameName_2 : decode cX3_sameName 2 = .ok (.isub, 1) := by decide +kernel
theorem dX3_sameName_3 : decode cX3_sameName 3 = .ok (.aload_n 0, 1) := by decide +kernel
theorem dX3_sameName_4 : decode cX3_sameName 4 = .ok (.getfield 95, 3) := by decide +kernel
theorem dX3_sameName_7 : decode cX3_sameName 7 = .ok (.aload_n 0, 1) := by decide +kernel
theorem dX3_sameName_8 : decode cX3_sameName 8 = .ok (.getfield 80, 3) := by decide +kernel
theorem dX3_sameName_11 : decode cX3_sameName 11 = .ok (.isub, 1) := by decide +kernel
theorem dX3_sameName_12 : decode cX3_sameName 12 = .ok (.if_icmp .eq 5, 3) := by decide +kernel
theorem dX3_sameName_15 : decode cX3_sameName 15 = .ok (.iconst 0, 1) := by decide +kernel
theorem dX3_sameName_16 : decode cX3_sameName 16 = .ok (.ireturn, 1) := by decide +kernel
theorem dX3_sameName_17 : decode cX3_sameName 17 = .ok (.iconst 0, 1) := by decide +kernel
theorem dX3_sameName_18 : decode cX3_sameName 18 = .ok (.istore_n 3, 1) := by decide +kernel
theorem dX3_sameName_19 : decode cX3_sameName 19 = .ok (.iload_n 3, 1) := by decide +kernel
theorem dX3_sameName_20 : decode cX3_sameName 20 = .ok (.iload_n 2, 1) := by decide +kernel
theorem dX3_sameName_21 : decode cX3_sameName 21 = .ok (.iload_n 1, 1) := by decide +kernel
theorem dX3_sameName_22 : decode cX3_sameName 22 = .ok (.isub, 1) := by decide +kernel
theorem dX3_sameName_23 : decode cX3_sameName 23 = .ok (.if_icmp .ge 39, 3) := by decide +kernel
theorem dX3_sameName_26 : decode cX3_sameName 26 = .ok (.aload_n 0, 1) := by decide +kernel
theorem dX3_sameName_27 : decode cX3_sameName 27 = .ok (.getfield 20, 3) := by decide +kernel
theorem dX3_sameName_30 : decode cX3_sameName 30 = .ok (.iload_n 1, 1) := by decide +kernel
theorem dX3_sameName_31 : decode cX3_sameName 31 = .ok (.iload_n 3, 1) := by decide +kernel
theorem dX3_sameName_32 : decode cX3_sameName 32 = .ok (.iadd, 1) := by decide +kernel
theorem dX3_sameName_33 : decode cX3_sameName 33 = .ok (.iconst 0, 1) := by decide +kernel
theorem dX3_sameName_34 : decode cX3_sameName 34 = .ok (.invokevirtual 184, 3) := by decide +kernel
theorem dX3_sameName_37 : decode cX3_sameName 37 = .ok (.aload_n 0, 1) := by decide +kernel
theorem dX3_sameName_38 : decode cX3_sameName 38 = .ok (.getfield 20, 3) := by decide +kernel
theorem dX3_sameName_41 : decode cX3_sameName 41 = .ok (.aload_n 0, 1) := by decide +kernel
theorem dX3_sameName_42 : decode cX3_sameName 42 = .ok (.getfield 80, 3) := by decide +kernel
theorem dX3_sameName_45 : decode cX3_sameName 45 = .ok (.iload_n 3, 1) := by decide +kernel
theorem dX3_sameName_46 : decode cX3_sameName 46 = .ok (.iadd, 1) := by decide +kernel
theorem dX3_sameName_47 : decode cX3_sameName 47 = .ok (.iconst 0, 1) := by decide +kernel
theorem dX3_sameName_48 : decode cX3_sameName 48 = .ok (.invokevirtual 184, 3) := by decide +kernel
theorem dX3_sameName_51 : decode cX3_sameName 51 = .ok (.if_icmp .eq 5, 3) := by decide +kernel
theorem dX3_sameName_54 : decode cX3_sameName 54 = .ok (.iconst 0, 1) := by decide +kernel
theorem dX3_sameName_55 : decode cX3_sameName 55 = .ok (.ireturn, 1) := by decide +kernel
theorem dX3_sameName_56 : decode cX3_sameName 56 = .ok (.iinc 3 1, 3) := by decide +kernel
theorem dX3_sameName_59 : decode cX3_sameName 59 = .ok (.goto (-40), 3) := by decide +kernel
theorem dX3_sameName_62 : decode cX3_sameName 62 = .ok (.iconst 1, 1) := by decide +kernel
theorem dX3_sameName_63 : decode cX3_sameName 63 = .ok (.ireturn, 1) := by decide +kernel
theorem dX3_readDancer_0 : decode cX3_readDancer 0 = .ok (.aload_n 0, 1) := by decide +kernel
theorem dX3_readDancer_1 : decode cX3_readDancer 1 = .ok (.getfield 23, 3) := by decide +kernel
theorem dX3_readDancer_4 : decode cX3_readDancer 4 = .ok (.getfield 148, 3) := by decide +kernel
theorem dX3_readDancer_7 : decode cX3_readDancer 7 = .ok (.iconst 0, 1) := by decide +kernel
theorem dX3_readDancer_8 : decode cX3_readDancer 8 = .ok (.invokevirtual 191, 3) := by decide +kernel
theorem dX3_readDancer_11 : decode cX3_readDancer 11 = .ok (.aload_n 0, 1) := by decide +kernel
theorem dX3_readDancer_12 : decode cX3_readDancer 12 = .ok (.aload_n 0, 1) := by decide +kernel
theorem dX3_readDancer_13 : decode cX3_readDancer 13 = .ok (.getfield 23, 3) := by decide +kernel
theorem dX3_readDancer_16 : decode cX3_readDancer 16 = .ok (.getfield 148, 3) := by decide +kernel
theorem dX3_readDancer_19 : decode cX3_readDancer 19 = .ok (.aload_n 0, 1) := by decide +kernel
theorem dX3_readDancer_20 : decode cX3_readDancer 20 = .ok (.getfield 23, 3) := by decide +kernel
theorem dX3_readDancer_23 : decode cX3_readDancer 23 = .ok (.getfield 148, 3) := by decide +kernel
theorem dX3_readDancer_26 : decode cX3_readDancer 26 = .ok (.invokevirtual 110, 3) := by decide +kernel
theorem dX3_readDancer_29 : decode cX3_readDancer 29 = .ok (.iconst 1, 1) := by decide +kernel
theorem dX3_readDancer_30 : decode cX3_readDancer 30 = .ok (.isub, 1) := by decide +kernel
theorem dX3_readDancer_31 : decode cX3_readDancer 31 = .ok (.iconst 0, 1) := by decide +kernel
theorem dX3_readDancer_32 : decode cX3_readDancer 32 = .ok (.invokevirtual 228, 3) := by decide +kernel
theorem dX3_readDancer_35 : decode cX3_readDancer 35 = .ok (.ireturn, 1) := by decide +kernel
theorem dX3_readPerson_0 : decode cX3_readPerson 0 = .ok (.aload_n 0, 1) := by decide +kernel
theorem dX3_readPerson_1 : decode cX3_readPerson 1 = .ok (.ldc 237, 2) := by decide +kernel
theorem dX3_readPerson_3 : decode cX3_readPerson 3 = .ok (.invokevirtual 155, 3) := by decide +kernel
theorem dX3_readPerson_6 : decode cX3_readPerson 6 = .ok (.ifCond .ne 5, 3) := by decide +kernel
theorem dX3_readPerson_9 : decode cX3_readPerson 9 = .ok (.iconst 0, 1) := by decide +kernel
theorem dX3_readPerson_10 : decode cX3_readPerson 10 = .ok (.ireturn, 1) := by decide +kernel
theorem dX3_readPerson_11 : decode cX3_readPerson 11 = .ok (.aload_n 1, 1) := by decide +kernel
theorem dX3_readPerson_12 : decode cX3_readPerson 12 = .ok (.iload_n 2, 1) := by decide +kernel
theorem dX3_readPerson_13 : decode cX3_readPerson 13 = .ok (.iload_n 3, 1) := by decide +kernel
theorem dX3_readPerson_14 : decode cX3_readPerson 14 = .ok (.aload_n 0, 1) := by decide +kernel
theorem dX3_readPerson_15 : decode cX3_readPerson 15 = .ok (.getfield 162, 3) := by decide +kernel
theorem dX3_readPerson_18 : decode cX3_readPerson 18 = .ok (.invokevirtual 222, 3) := by decide +kernel
theorem dX3_readPerson_21 : decode cX3_readPerson 21 = .ok (.aload_n 0, 1) := by decide +kernel
theorem dX3_readPerson_22 : decode cX3_readPerson 22 = .ok (.ldc 239, 2) := by decide +kernel
theorem dX3_readPerson_24 : decode cX3_readPerson 24 = .ok (.invokevirtual 155, 3) := by decide +kernel
theorem dX3_readPerson_27 : decode cX3_readPerson 27 = .ok (.ifCond .eq 13, 3) := by decide +kernel
theorem dX3_readPerson_30 : decode cX3_readPerson 30 = .ok (.aload_n 0, 1) := by decide +kernel
theorem dX3_readPerson_31 : decode cX3_readPerson 31 = .ok (.iconst 1, 1) := by decide +kernel
theorem dX3_readPerson_32 : decode cX3_readPerson 32 = .ok (.bipush 9, 2) := by decide +kernel
theorem dX3_readPerson_34 : decode cX3_readPerson 34 = .ok (.invokevirtual 159, 3) := by decide +kernel
theorem dX3_readPerson_37 : decode cX3_readPerson 37 = .ok (.ifCond .ne 5, 3) := by decide +kernel
theorem dX3_readPerson_40 : decode cX3_readPerson 40 = .ok (.iconst 0, 1) := by decide +kernel
theorem dX3_readPerson_41 : decode cX3_readPerson 41 = .ok (.ireturn, 1) := by decide +kernel
theorem dX3_readPerson_42 : decode cX3_readPerson 42 = .ok (.aload_n 1, 1) := by decide +kernel
theorem dX3_readPerson_43 : decode cX3_readPerson 43 = .ok (.iload_n 2, 1) := by decide +kernel
theorem dX3_readPerson_44 : decode cX3_readPerson 44 = .ok (.iload_n 3, 1) := by decide +kernel
theorem dX3_readPerson_45 : decode cX3_readPerson 45 = .ok (.iconst 1, 1) := by decide +kernel
theorem dX3_readPerson_46 : decode cX3_readPerson 46 = .ok (.iadd, 1) := by decide +kernel
theorem dX3_readPerson_47 : decode cX3_readPerson 47 = .ok (.aload_n 0, 1) := by decide +kernel
theorem dX3_readPerson_48 : decode cX3_readPerson 48 = .ok (.getfield 162, 3) := by decide +kernel
theorem dX3_readPerson_51 : decode cX3_readPerson 51 = .ok (.invokevirtual 222, 3) := by decide +kernel
theorem dX3_readPerson_54 : decode cX3_readPerson 54 = .ok (.aload_n 0, 1) := by decide +kernel
theorem dX3_readPerson_55 : decode cX3_readPerson 55 = .ok (.ldc 241, 2) := by decide +kernel
theorem dX3_readPerson_57 : decode cX3_readPerson 57 = .ok (.invokevirtual 155, 3) := by decide +kernel
theorem dX3_readPerson_60 : decode cX3_readPerson 60 = .ok (.ifCond .eq 13, 3) := by decide +kernel
theorem dX3_readPerson_63 : decode cX3_readPerson 63 = .ok (.aload_n 0, 1) := by decide +kernel
theorem dX3_readPerson_64 : decode cX3_readPerson 64 = .ok (.iconst 0, 1) := by decide +kernel
theorem dX3_readPerson_65 : decode cX3_readPerson 65 = .ok (.bipush 9, 2) := by decide +kernel
theorem dX3_readPerson_67 : decode cX3_readPerson 67 = .ok (.invokevirtual 159, 3) := by decide +kernel
theorem dX3_readPerson_70 : decode cX3_readPerson 70 = .ok (.ifCond .ne 5, 3) := by decide +kernel
theorem dX3_readPerson_73 : decode cX3_readPerson 73 = .ok (.iconst 0, 1) := by decide +kernel
theorem dX3_readPerson_74 : decode cX3_readPerson 74 = .ok (.ireturn, 1) := by decide +kernel
theorem dX3_readPerson_75 : decode cX3_readPerson 75 = .ok (.aload_n 1, 1) := by decide +kernel
theorem dX3_readPerson_76 : decode cX3_readPerson 76 = .ok (.iload_n 2, 1) := by decide +kernel
theorem dX3_readPerson_77 : decode cX3_readPerson 77 = .ok (.iload_n 3, 1) := by decide +kernel
theorem dX3_readPerson_78 : decode cX3_readPerson 78 = .ok (.iconst 2, 1) := by decide +kernel
theorem dX3_readPerson_79 : decode cX3_readPerson 79 = .ok (.iadd, 1) := by decide +kernel
theorem dX3_readPerson_80 : decode cX3_readPerson 80 = .ok (.aload_n 0, 1) := by decide +kernel
theorem dX3_readPerson_81 : decode cX3_readPerson 81 = .ok (.getfield 162, 3) := by decide +kernel
theorem dX3_readPerson_84 : decode cX3_readPerson 84 = .ok (.invokevirtual 222, 3) := by decide +kernel
theorem dX3_readPerson_87 : decode cX3_readPerson 87 = .ok (.iconst 1, 1) := by decide +kernel
theorem dX3_readPerson_88 : decode cX3_readPerson 88 = .ok (.ireturn, 1) := by decide +kernel
theorem dX3_readSnake_0 : decode cX3_readSnake 0 = .ok (.aload_n 0, 1) := by decide +kernel
theorem dX3_readSnake_1 : decode cX3_readSnake 1 = .ok (.invokevirtual 194, 3) := by decide +kernel
theorem dX3_readSnake_4 : decode cX3_readSnake 4 = .ok (.ifCond .ne 5, 3) := by decide +kernel
theorem dX3_readSnake_7 : decode cX3_readSnake 7 = .ok (.iconst 0, 1) := by decide +kernel
theorem dX3_readSnake_8 : decode cX3_readSnake 8 = .ok (.ireturn, 1) := by decide +kernel
theorem dX3_readSnake_9 : decode cX3_readSnake 9 = .ok (.aload_n 0, 1) := by decide +kernel
theorem dX3_readSnake_10 : decode cX3_readSnake 10 = .ok (.getfield 162, 3) := by decide +kernel
theorem dX3_readSnake_13 : decode cX3_readSnake 13 = .ok (.istore_n 1, 1) := by decide +kernel
theorem dX3_readSnake_14 : decode cX3_readSnake 14 = .ok (.aload_n 0, 1) := by decide +kernel
theorem dX3_readSnake_15 : decode cX3_readSnake 15 = .ok (.getfield 23, 3) := by decide +kernel
theorem dX3_readSnake_18 : decode cX3_readSnake 18 = .ok (.iload_n 1, 1) := by decide +kernel
theorem dX3_readSnake_19 : decode cX3_readSnake 19 = .ok (.invokevirtual 243, 3) := by decide +kernel
theorem dX3_readSnake_22 : decode cX3_readSnake 22 = .ok (.ifCond .ne 14, 3) := by decide +kernel
theorem dX3_readSnake_25 : decode cX3_readSnake 25 = .ok (.aload_n 0, 1) := by decide +kernel
theorem dX3_readSnake_26 : decode cX3_readSnake 26 = .ok (.bipush 7, 2) := by decide +kernel
theorem dX3_readSnake_28 : decode cX3_readSnake 28 = .ok (.aload_n 0, 1) := by decide +kernel
theorem dX3_readSnake_29 : decode cX3_readSnake 29 = .ok (.getfield 219, 3) := by decide +kernel
theorem dX3_readSnake_32 : decode cX3_readSnake 32 = .ok (.invokevirtual 83, 3) := by decide +kernel
theorem dX3_readSnake_35 : decode cX3_readSnake 35 = .ok (.ireturn, 1) := by decide +kernel
theorem dX3_readSnake_36 : decode cX3_readSnake 36 = .ok (.aload_n 0, 1) := by decide +kernel
theorem dX3_readSnake_37 : decode cX3_readSnake 37 = .ok (.getfield 80, 3) := by decide +kernel
theorem dX3_readSnake_40 : decode cX3_readSnake 40 = .ok (.istore_n 2, 1) := by decide +kernel
theorem dX3_readSnake_41 : decode cX3_readSnake 41 = .ok (.aload_n 0, 1) := by decide +kernel
theorem dX3_readSnake_42 : decode cX3_readSnake 42 = .ok (.ldc 209, 2) := by decide +kernel
theorem dX3_readSnake_44 : decode cX3_readSnake 44 = .ok (.invokevirtual 155, 3) := by decide +kernel
theorem dX3_readSnake_47 : decode cX3_readSnake 47 = .ok (.ifCond .ne 5, 3) := by decide +kernel
theorem dX3_readSnake_50 : decode cX3_readSnake 50 = .ok (.iconst 0, 1) := by decide +kernel
theorem dX3_readSnake_51 : decode cX3_readSnake 51 = .ok (.ireturn, 1) := by decide +kernel
theorem dX3_readSnake_52 : decode cX3_readSnake 52 = .ok (.iload_n 1, 1) := by decide +kernel
theorem dX3_readSnake_53 : decode cX3_readSnake 53 = .ok (.istore_n 3, 1) := by decide +kernel
theorem dX3_readSnake_54 : decode cX3_readSnake 54 = .ok (.iconst 1, 1) := by decide +kernel
theorem dX3_readSnake_55 : decode cX3_readSnake 55 = .ok (.istore 4, 2) := by decide +kernel
theorem dX3_readSnake_57 : decode cX3_readSnake 57 = .ok (.iload 4, 2) := by decide +kernel
theorem dX3_readSnake_59 : decode cX3_readSnake 59 = .ok (.aload_n 0, 1) := by decide +kernel
theorem dX3_readSnake_60 : decode cX3_readSnake 60 = .ok (.getfield 23, 3) := by decide +kernel
theorem dX3_readSnake_63 : decode cX3_readSnake 63 = .ok (.getfield 148, 3) := by decide +kernel
theorem dX3_readSnake_66 : decode cX3_readSnake 66 = .ok (.invokevirtual 110, 3) := by decide +kernel
theorem dX3_readSnake_69 : decode cX3_readSnake 69 = .ok (.if_icmp .ge 45, 3) := by decide +kernel
theorem dX3_readSnake_72 : decode cX3_readSnake 72 = .ok (.aload_n 0, 1) := by decide +kernel
theorem dX3_readSnake_73 : decode cX3_readSnake 73 = .ok (.getfield 23, 3) := by decide +kernel
theorem dX3_readSnake_76 : decode cX3_readSnake 76 = .ok (.iload_n 3, 1) := by decide +kernel
theorem dX3_readSnake_77 : decode cX3_readSnake 77 = .ok (.aload_n 0, 1) := by decide +kernel
theorem dX3_readSnake_78 : decode cX3_readSnake 78 = .ok (.getfield 162, 3) := by decide +kernel
theorem dX3_readSnake_81 : decode cX3_readSnake 81 = .ok (.iconst 2, 1) := by decide +kernel
theorem dX3_readSnake_82 : decode cX3_readSnake 82 = .ok (.iadd, 1) := by decide +kernel
theorem dX3_readSnake_83 : decode cX3_readSnake 83 = .ok (.iconst 4, 1) := by decide +kernel
theorem dX3_readSnake_84 : decode cX3_readSnake 84 = .ok (.irem, 1) := by decide +kernel
theorem dX3_readSnake_85 : decode cX3_readSnake 85 = .ok (.invokevirtual 246, 3) := by decide +kernel
theorem dX3_readSnake_88 : decode cX3_readSnake 88 = .ok (.istore_n 3, 1) := by decide +kernel
theorem dX3_readSnake_89 : decode cX3_readSnake 89 = .ok (.aload_n 0, 1) := by decide +kernel
theorem dX3_readSnake_90 : decode cX3_readSnake 90 = .ok (.getfield 23, 3) := by decide +kernel
theorem dX3_readSnake_93 : decode cX3_readSnake 93 = .ok (.iload_n 3, 1) := by decide +kernel
theorem dX3_readSnake_94 : decode cX3_readSnake 94 = .ok (.invokevirtual 243, 3) := by decide +kernel
theorem dX3_readSnake_97 : decode cX3_readSnake 97 = .ok (.ifCond .ne 11, 3) := by decide +kernel
theorem dX3_readSnake_100 : decode cX3_readSnake 100 = .ok (.aload_n 0, 1) := by decide +kernel
theorem dX3_readSnake_101 : decode cX3_readSnake 101 = .ok (.bipush 7, 2) := by decide +kernel
theorem dX3_readSnake_103 : decode cX3_readSnake 103 = .ok (.iload_n 2, 1) := by decide +kernel
theorem dX3_readSnake_104 : decode cX3_readSnake 104 = .ok (.invokevirtual 83, 3) := by decide +kernel
theorem dX3_readSnake_107 : decode cX3_readSnake 107 = .ok (.ireturn, 1) := by decide +kernel
theorem dX3_readSnake_108 : decode cX3_readSnake 108 = .ok (.iinc 4 1, 3) := by decide +kernel
theorem dX3_readSnake_111 : decode cX3_readSnake 111 = .ok (.goto (-54), 3) := by decide +kernel
theorem dX3_readSnake_114 : decode cX3_readSnake 114 = .ok (.aload_n 0, 1) := by decide +kernel
theorem dX3_readSnake_115 : decode cX3_readSnake 115 = .ok (.getfield 23, 3) := by decide +kernel
theorem dX3_readSnake_118 : decode cX3_readSnake 118 = .ok (.iload_n 1, 1) := by decide +kernel
theorem dX3_readSnake_119 : decode cX3_readSnake 119 = .ok (.putfield 116, 3) := by decide +kernel
theorem dX3_readSnake_122 : decode cX3_readSnake 122 = .ok (.aload_n 0, 1) := by decide +kernel
theorem dX3_readSnake_123 : decode cX3_readSnake 123 = .ok (.getfield 23, 3) := by decide +kernel
theorem dX3_readSnake_126 : decode cX3_readSnake 126 = .ok (.aload_n 0, 1) := by decide +kernel
theorem dX3_readSnake_127 : decode cX3_readSnake 127 = .ok (.getfield 162, 3) := by decide +kernel
theorem dX3_readSnake_130 : decode cX3_readSnake 130 = .ok (.putfield 249, 3) := by decide +kernel
theorem dX3_readSnake_133 : decode cX3_readSnake 133 = .ok (.iconst 1, 1) := by decide +kernel
theorem dX3_readSnake_134 : decode cX3_readSnake 134 = .ok (.ireturn, 1) := by decide +kernel
theorem dX3_readFrame_0 : decode cX3_readFrame 0 = .ok (.aload_n 0, 1) := by decide +kernel
theorem dX3_readFrame_1 : decode cX3_readFrame 1 = .ok (.iconst 0, 1) := by decide +kernel
theorem dX3_readFrame_2 : decode cX3_readFrame 2 = .ok (.bipush 40, 2) := by decide +kernel
theorem dX3_readFrame_4 : decode cX3_readFrame 4 = .ok (.invokevirtual 159, 3) := by decide +kernel
theorem dX3_readFrame_7 : decode cX3_readFrame 7 = .ok (.ifCond .ne 5, 3) := by decide +kernel
theorem dX3_readFrame_10 : decode cX3_readFrame 10 = .ok (.iconst 0, 1) := by decide +kernel
theorem dX3_readFrame_11 : decode cX3_readFrame 11 = .ok (.ireturn, 1) := by decide +kernel
theorem dX3_readFrame_12 : decode cX3_readFrame 12 = .ok (.aload_n 0, 1) := by decide +kernel
theorem dX3_readFrame_13 : decode cX3_readFrame 13 = .ok (.getfield 162, 3) := by decide +kernel
theorem dX3_readFrame_16 : decode cX3_readFrame 16 = .ok (.istore_n 1, 1) := by decide +kernel
theorem dX3_readFrame_17 : decode cX3_readFrame 17 = .ok (.aload_n 0, 1) := by decide +kernel
theorem dX3_readFrame_18 : decode cX3_readFrame 18 = .ok (.iconst 0, 1) := by decide +kernel
theorem dX3_readFrame_19 : decode cX3_readFrame 19 = .ok (.aload_n 0, 1) := by decide +kernel
theorem dX3_readFrame_20 : decode cX3_readFrame 20 = .ok (.getfield 23, 3) := by decide +kernel
theorem dX3_readFrame_23 : decode cX3_readFrame 23 = .ok (.getfield 148, 3) := by decide +kernel
theorem dX3_readFrame_26 : decode cX3_readFrame 26 = .ok (.invokevirtual 110, 3) := by decide +kernel
theorem dX3_readFrame_29 : decode cX3_readFrame 29 = .ok (.iconst 1, 1) := by decide +kernel
theorem dX3_readFrame_30 : decode cX3_readFrame 30 = .ok (.isub, 1) := by decide +kernel
theorem dX3_readFrame_31 : decode cX3_readFrame 31 = .ok (.invokevirtual 159, 3) := by decide +kernel
theorem dX3_readFrame_34 : decode cX3_readFrame 34 = .ok (.ifCond .ne 5, 3) := by decide +kernel
theorem dX3_readFrame_37 : decode cX3_readFrame 37 = .ok (.iconst 0, 1) := by decide +kernel
theorem dX3_readFrame_38 : decode cX3_readFrame 38 = .ok (.ireturn, 1) := by decide +kernel
theorem dX3_readFrame_39 : decode cX3_readFrame 39 = .ok (.aload_n 0, 1) := by decide +kernel
theorem dX3_readFrame_40 : decode cX3_readFrame 40 = .ok (.getfield 162, 3) := by decide +kernel
theorem dX3_readFrame_43 : decode cX3_readFrame 43 = .ok (.istore_n 2, 1) := by decide +kernel
theorem dX3_readFrame_44 : decode cX3_readFrame 44 = .ok (.aload_n 0, 1) := by decide +kernel
theorem dX3_readFrame_45 : decode cX3_readFrame 45 = .ok (.ldc 217, 2) := by decide +kernel
theorem dX3_readFrame_47 : decode cX3_readFrame 47 = .ok (.invokevirtual 155, 3) := by decide +kernel
theorem dX3_readFrame_50 : decode cX3_readFrame 50 = .ok (.ifCond .eq 10, 3) := by decide +kernel
theorem dX3_readFrame_53 : decode cX3_readFrame 53 = .ok (.aload_n 0, 1) := by decide +kernel
theorem dX3_readFrame_54 : decode cX3_readFrame 54 = .ok (.invokevirtual 194, 3) := by decide +kernel
theorem dX3_readFrame_57 : decode cX3_readFrame 57 = .ok (.ifCond .ne 5, 3) := by decide +kernel
theorem dX3_readFrame_60 : decode cX3_readFrame 60 = .ok (.iconst 0, 1) := by decide +kernel
theorem dX3_readFrame_61 : decode cX3_readFrame 61 = .ok (.ireturn, 1) := by decide +kernel
theorem dX3_readFrame_62 : decode cX3_readFrame 62 = .ok (.aload_n 0, 1) := by decide +kernel
theorem dX3_readFrame_63 : decode cX3_readFrame 63 = .ok (.getfield 23, 3) := by decide +kernel
theorem dX3_readFrame_66 : decode cX3_readFrame 66 = .ok (.getfield 151, 3) := by decide +kernel
theorem dX3_readFrame_69 : decode cX3_readFrame 69 = .ok (.invokevirtual 110, 3) := by decide +kernel
theorem dX3_readFrame_72 : decode cX3_readFrame 72 = .ok (.istore_n 3, 1) := by decide +kernel
theorem dX3_readFrame_73 : decode cX3_readFrame 73 = .ok (.aload_n 0, 1) := by decide +kernel
theorem dX3_readFrame_74 : decode cX3_readFrame 74 = .ok (.getfield 23, 3) := by decide +kernel
theorem dX3_readFrame_77 : decode cX3_readFrame 77 = .ok (.getfield 151, 3) := by decide +kernel
theorem dX3_readFrame_80 : decode cX3_readFrame 80 = .ok (.iload_n 1, 1) := by decide +kernel
theorem dX3_readFrame_81 : decode cX3_readFrame 81 = .ok (.invokevirtual 191, 3) := by decide +kernel
theorem dX3_readFrame_84 : decode cX3_readFrame 84 = .ok (.aload_n 0, 1) := by decide +kernel
theorem dX3_readFrame_85 : decode cX3_readFrame 85 = .ok (.getfield 23, 3) := by decide +kernel
theorem dX3_readFrame_88 : decode cX3_readFrame 88 = .ok (.getfield 151, 3) := by decide +kernel
theorem dX3_readFrame_91 : decode cX3_readFrame 91 = .ok (.iload_n 3, 1) := by decide +kernel
theorem dX3_readFrame_92 : decode cX3_readFrame 92 = .ok (.iconst 1, 1) := by decide +kernel
theorem dX3_readFrame_93 : decode cX3_readFrame 93 = .ok (.iload_n 2, 1) := by decide +kernel
theorem dX3_readFrame_94 : decode cX3_readFrame 94 = .ok (.invokevirtual 222, 3) := by decide +kernel
theorem dX3_readFrame_97 : decode cX3_readFrame 97 = .ok (.aload_n 0, 1) := by decide +kernel
theorem dX3_readFrame_98 : decode cX3_readFrame 98 = .ok (.getfield 23, 3) := by decide +kernel
theorem dX3_readFrame_101 : decode cX3_readFrame 101 = .ok (.getfield 151, 3) := by decide +kernel
theorem dX3_readFrame_104 : decode cX3_readFrame 104 = .ok (.iload_n 3, 1) := by decide +kernel
theorem dX3_readFrame_105 : decode cX3_readFrame 105 = .ok (.iconst 2, 1) := by decide +kernel
theorem dX3_readFrame_106 : decode cX3_readFrame 106 = .ok (.aload_n 0, 1) := by decide +kernel
theorem dX3_readFrame_107 : decode cX3_readFrame 107 = .ok (.getfield 162, 3) := by decide +kernel
theorem dX3_readFrame_110 : decode cX3_readFrame 110 = .ok (.invokevirtual 222, 3) := by decide +kernel
theorem dX3_readFrame_113 : decode cX3_readFrame 113 = .ok (.iconst 1, 1) := by decide +kernel
theorem dX3_readFrame_114 : decode cX3_readFrame 114 = .ok (.ireturn, 1) := by decide +kernel
theorem dX3_expectCell_0 : decode cX3_expectCell 0 = .ok (.aload_n 0, 1) := by decide +kernel
theorem dX3_expectCell_1 : decode cX3_expectCell 1 = .ok (.iconst 0, 1) := by decide +kernel
theorem dX3_expectCell_2 : decode cX3_expectCell 2 = .ok (.aload_n 0, 1) := by decide +kernel
theorem dX3_expectCell_3 : decode cX3_expectCell 3 = .ok (.getfield 23, 3) := by decide +kernel
theorem dX3_expectCell_6 : decode cX3_expectCell 6 = .ok (.getfield 129, 3) := by decide +kernel
theorem dX3_expectCell_9 : decode cX3_expectCell 9 = .ok (.iconst 1, 1) := by decide +kernel
theorem dX3_expectCell_10 : decode cX3_expectCell 10 = .ok (.isub, 1) := by decide +kernel
theorem dX3_expectCell_11 : decode cX3_expectCell 11 = .ok (.invokevirtual 159, 3) := by decide +kernel
theorem dX3_expectCell_14 : decode cX3_expectCell 14 = .ok (.ifCond .ne 5, 3) := by decide +kernel
theorem dX3_expectCell_17 : decode cX3_expectCell 17 = .ok (.iconst 0, 1) := by decide +kernel
theorem dX3_expectCell_18 : decode cX3_expectCell 18 = .ok (.ireturn, 1) := by decide +kernel
theorem dX3_expectCell_19 : decode cX3_expectCell 19 = .ok (.aload_n 0, 1) := by decide +kernel
theorem dX3_expectCell_20 : decode cX3_expectCell 20 = .ok (.getfield 162, 3) := by decide +kernel
theorem dX3_expectCell_23 : decode cX3_expectCell 23 = .ok (.istore_n 1, 1) := by decide +kernel
theorem dX3_expectCell_24 : decode cX3_expectCell 24 = .ok (.aload_n 0, 1) := by decide +kernel
theorem dX3_expectCell_25 : decode cX3_expectCell 25 = .ok (.iconst 4, 1) := by decide +kernel
theorem dX3_expectCell_26 : decode cX3_expectCell 26 = .ok (.invokevirtual 76, 3) := by decide +kernel
theorem dX3_expectCell_29 : decode cX3_expectCell 29 = .ok (.ifCond .eq 20, 3) := by decide +kernel
theorem dX3_expectCell_32 : decode cX3_expectCell 32 = .ok (.aload_n 0, 1) := by decide +kernel
theorem dX3_expectCell_33 : decode cX3_expectCell 33 = .ok (.iconst 0, 1) := by decide +kernel
theorem dX3_expectCell_34 : decode cX3_expectCell 34 = .ok (.aload_n 0, 1) := by decide +kernel
theorem dX3_expectCell_35 : decode cX3_expectCell 35 = .ok (.getfield 23, 3) := by decide +kernel
theorem dX3_expectCell_38 : decode cX3_expectCell 38 = .ok (.getfield 182, 3) := by decide +kernel
theorem dX3_expectCell_41 : decode cX3_expectCell 41 = .ok (.iconst 1, 1) := by decide +kernel
theorem dX3_expectCell_42 : decode cX3_expectCell 42 = .ok (.isub, 1) := by decide +kernel
theorem dX3_expectCell_43 : decode cX3_expectCell 43 = .ok (.invokevirtual 159, 3) := by decide +kernel
theorem dX3_expectCell_46 : decode cX3_expectCell 46 = .ok (.ifCond .ne 5, 3) := by decide +kernel
theorem dX3_expectCell_49 : decode cX3_expectCell 49 = .ok (.iconst 0, 1) := by decide +kernel
theorem dX3_expectCell_50 : decode cX3_expectCell 50 = .ok (.ireturn, 1) := by decide +kernel
theorem dX3_expectCell_51 : decode cX3_expectCell 51 = .ok (.aload_n 0, 1) := by decide +kernel
theorem dX3_expectCell_52 : decode cX3_expectCell 52 = .ok (.aload_n 0, 1) := by decide +kernel
theorem dX3_expectCell_53 : decode cX3_expectCell 53 = .ok (.getfield 23, 3) := by decide +kernel
theorem dX3_expectCell_56 : decode cX3_expectCell 56 = .ok (.iload_n 1, 1) := by decide +kernel
theorem dX3_expectCell_57 : decode cX3_expectCell 57 = .ok (.aload_n 0, 1) := by decide +kernel
theorem dX3_expectCell_58 : decode cX3_expectCell 58 = .ok (.getfield 162, 3) := by decide +kernel
theorem dX3_expectCell_61 : decode cX3_expectCell 61 = .ok (.invokevirtual 252, 3) := by decide +kernel
theorem dX3_expectCell_64 : decode cX3_expectCell 64 = .ok (.putfield 162, 3) := by decide +kernel
theorem dX3_expectCell_67 : decode cX3_expectCell 67 = .ok (.iconst 1, 1) := by decide +kernel
theorem dX3_expectCell_68 : decode cX3_expectCell 68 = .ok (.ireturn, 1) := by decide +kernel
theorem dX3_expectWhole_0 : decode cX3_expectWhole 0 = .ok (.aload_n 0, 1) := by decide +kernel
theorem dX3_expectWhole_1 : decode cX3_expectWhole 1 = .ok (.getfield 70, 3) := by decide +kernel
theorem dX3_expectWhole_4 : decode cX3_expectWhole 4 = .ok (.iconst 2, 1) := by decide +kernel
theorem dX3_expectWhole_5 : decode cX3_expectWhole 5 = .ok (.if_icmp .eq 13, 3) := by decide +kernel
theorem dX3_expectWhole_8 : decode cX3_expectWhole 8 = .ok (.aload_n 0, 1) := by decide +kernel
theorem dX3_expectWhole_9 : decode cX3_expectWhole 9 = .ok (.iconst 1, 1) := by decide +kernel
theorem dX3_expectWhole_10 : decode cX3_expectWhole 10 = .ok (.aload_n 0, 1) := by decide +kernel
theorem dX3_expectWhole_11 : decode cX3_expectWhole 11 = .ok (.getfield 80, 3) := by decide +kernel
theorem dX3_expectWhole_14 : decode cX3_expectWhole 14 = .ok (.invokevirtual 83, 3) := by decide +kernel
theorem dX3_expectWhole_17 : decode cX3_expectWhole 17 = .ok (.ireturn, 1) := by decide +kernel
theorem dX3_expectWhole_18 : decode cX3_expectWhole 18 = .ok (.aload_n 0, 1) := by decide +kernel
theorem dX3_expectWhole_19 : decode cX3_expectWhole 19 = .ok (.getfield 255, 3) := by decide +kernel
theorem dX3_expectWhole_22 : decode cX3_expectWhole 22 = .ok (.iload_n 1, 1) := by decide +kernel
theorem dX3_expectWhole_23 : decode cX3_expectWhole 23 = .ok (.if_icmp .lt 11, 3) := by decide +kernel
theorem dX3_expectWhole_26 : decode cX3_expectWhole 26 = .ok (.aload_n 0, 1) := by decide +kernel
theorem dX3_expectWhole_27 : decode cX3_expectWhole 27 = .ok (.getfield 255, 3) := by decide +kernel
theorem dX3_expectWhole_30 : decode cX3_expectWhole 30 = .ok (.iload_n 2, 1) := by decide +kernel
theorem dX3_expectWhole_31 : decode cX3_expectWhole 31 = .ok (.if_icmp .le 13, 3) := by decide +kernel
theorem dX3_expectWhole_34 : decode cX3_expectWhole 34 = .ok (.aload_n 0, 1) := by decide +kernel
theorem dX3_expectWhole_35 : decode cX3_expectWhole 35 = .ok (.iconst 4, 1) := by decide +kernel
theorem dX3_expectWhole_36 : decode cX3_expectWhole 36 = .ok (.aload_n 0, 1) := by decide +kernel
theorem dX3_expectWhole_37 : decode cX3_expectWhole 37 = .ok (.getfield 80, 3) := by decide +kernel
theorem dX3_expectWhole_40 : decode cX3_expectWhole 40 = .ok (.invokevirtual 83, 3) := by decide +kernel
theorem dX3_expectWhole_43 : decode cX3_expectWhole 43 = .ok (.ireturn, 1) := by decide +kernel
theorem dX3_expectWhole_44 : decode cX3_expectWhole 44 = .ok (.aload_n 0, 1) := by decide +kernel
theorem dX3_expectWhole_45 : decode cX3_expectWhole 45 = .ok (.aload_n 0, 1) := by decide +kernel
theorem dX3_expectWhole_46 : decode cX3_expectWhole 46 = .ok (.getfield 255, 3) := by decide +kernel
theorem dX3_expectWhole_49 : decode cX3_expectWhole 49 = .ok (.putfield 162, 3) := by decide +kernel
theorem dX3_expectWhole_52 : decode cX3_expectWhole 52 = .ok (.aload_n 0, 1) := by decide +kernel
theorem dX3_expectWhole_53 : decode cX3_expectWhole 53 = .ok (.aload_n 0, 1) := by decide +kernel
theorem dX3_expectWhole_54 : decode cX3_expectWhole 54 = .ok (.getfield 80, 3) := by decide +kernel
theorem dX3_expectWhole_57 : decode cX3_expectWhole 57 = .ok (.putfield 219, 3) := by decide +kernel
theorem dX3_expectWhole_60 : decode cX3_expectWhole 60 = .ok (.aload_n 0, 1) := by decide +kernel
theorem dX3_expectWhole_61 : decode cX3_expectWhole 61 = .ok (.invokevirtual 104, 3) := by decide +kernel
theorem dX3_expectWhole_64 : decode cX3_expectWhole 64 = .ok (.iconst 1, 1) := by decide +kernel
theorem dX3_expectWhole_65 : decode cX3_expectWhole 65 = .ok (.ireturn, 1) := by decide +kernel
theorem dX3_expectOne_0 : decode cX3_expectOne 0 = .ok (.aload_n 0, 1) := by decide +kernel
theorem dX3_expectOne_1 : decode cX3_expectOne 1 = .ok (.getfield 70, 3) := by decide +kernel
theorem dX3_expectOne_4 : decode cX3_expectOne 4 = .ok (.iconst 1, 1) := by decide +kernel
theorem dX3_expectOne_5 : decode cX3_expectOne 5 = .ok (.if_icmp .ne 11, 3) := by decide +kernel
theorem dX3_expectOne_8 : decode cX3_expectOne 8 = .ok (.aload_n 0, 1) := by decide +kernel
theorem dX3_expectOne_9 : decode cX3_expectOne 9 = .ok (.aload_n 1, 1) := by decide +kernel
theorem dX3_expectOne_10 : decode cX3_expectOne 10 = .ok (.invokevirtual 121, 3) := by decide +kernel
theorem dX3_expectOne_13 : decode cX3_expectOne 13 = .ok (.goto 4, 3) := by decide +kernel
theorem dX3_expectOne_16 : decode cX3_expectOne 16 = .ok (.iconst (-1), 1) := by decide +kernel
theorem dX3_expectOne_17 : decode cX3_expectOne 17 = .ok (.istore_n 2, 1) := by decide +kernel
theorem dX3_expectOne_18 : decode cX3_expectOne 18 = .ok (.iload_n 2, 1) := by decide +kernel
theorem dX3_expectOne_19 : decode cX3_expectOne 19 = .ok (.ifCond .ge 13, 3) := by decide +kernel
theorem dX3_expectOne_22 : decode cX3_expectOne 22 = .ok (.aload_n 0, 1) := by decide +kernel
theorem dX3_expectOne_23 : decode cX3_expectOne 23 = .ok (.iconst 1, 1) := by decide +kernel
theorem dX3_expectOne_24 : decode cX3_expectOne 24 = .ok (.aload_n 0, 1) := by decide +kernel
theorem dX3_expectOne_25 : decode cX3_expectOne 25 = .ok (.getfield 80, 3) := by decide +kernel
theorem dX3_expectOne_28 : decode cX3_expectOne 28 = .ok (.invokevirtual 83, 3) := by decide +kernel
theorem dX3_expectOne_31 : decode cX3_expectOne 31 = .ok (.ireturn, 1) := by decide +kernel
theorem dX3_expectOne_32 : decode cX3_expectOne 32 = .ok (.aload_n 0, 1) := by decide +kernel
theorem dX3_expectOne_33 : decode cX3_expectOne 33 = .ok (.iload_n 2, 1) := by decide +kernel
theorem dX3_expectOne_34 : decode cX3_expectOne 34 = .ok (.putfield 162, 3) := by decide +kernel
theorem dX3_expectOne_37 : decode cX3_expectOne 37 = .ok (.aload_n 0, 1) := by decide +kernel
theorem dX3_expectOne_38 : decode cX3_expectOne 38 = .ok (.invokevirtual 104, 3) := by decide +kernel
theorem dX3_expectOne_41 : decode cX3_expectOne 41 = .ok (.iconst 1, 1) := by decide +kernel
theorem dX3_expectOne_42 : decode cX3_expectOne 42 = .ok (.ireturn, 1) := by decide +kernel
theorem dX3_expect_0 : decode cX3_expect 0 = .ok (.aload_n 0, 1) := by decide +kernel
theorem dX3_expect_1 : decode cX3_expect 1 = .ok (.getfield 70, 3) := by decide +kernel
theorem dX3_expect_4 : decode cX3_expect 4 = .ok (.iload_n 1, 1) := by decide +kernel
theorem dX3_expect_5 : decode cX3_expect 5 = .ok (.if_icmp .eq 13, 3) := by decide +kernel
theorem dX3_expect_8 : decode cX3_expect 8 = .ok (.aload_n 0, 1) := by decide +kernel
theorem dX3_expect_9 : decode cX3_expect 9 = .ok (.iconst 1, 1) := by decide +kernel
theorem dX3_expect_10 : decode cX3_expect 10 = .ok (.aload_n 0, 1) := by decide +kernel
theorem dX3_expect_11 : decode cX3_expect 11 = .ok (.getfield 80, 3) := by decide +kernel
theorem dX3_expect_14 : decode cX3_expect 14 = .ok (.invokevirtual 83, 3) := by decide +kernel
theorem dX3_expect_17 : decode cX3_expect 17 = .ok (.ireturn, 1) := by decide +kernel
theorem dX3_expect_18 : decode cX3_expect 18 = .ok (.aload_n 0, 1) := by decide +kernel
theorem dX3_expect_19 : decode cX3_expect 19 = .ok (.invokevirtual 104, 3) := by decide +kernel
theorem dX3_expect_22 : decode cX3_expect 22 = .ok (.iconst 1, 1) := by decide +kernel
theorem dX3_expect_23 : decode cX3_expect 23 = .ok (.ireturn, 1) := by decide +kernel
theorem dX3_fail_0 : decode cX3_fail 0 = .ok (.aload_n 0, 1) := by decide +kernel
theorem dX3_fail_1 : decode cX3_fail 1 = .ok (.iload_n 1, 1) := by decide +kernel
theorem dX3_fail_2 : decode cX3_fail 2 = .ok (.putfield 98, 3) := by decide +kernel
theorem dX3_fail_5 : decode cX3_fail 5 = .ok (.aload_n 0, 1) := by decide +kernel
theorem dX3_fail_6 : decode cX3_fail 6 = .ok (.iload_n 2, 1) := by decide +kernel
theorem dX3_fail_7 : decode cX3_fail 7 = .ok (.putfield 101, 3) := by decide +kernel
theorem dX3_fail_10 : decode cX3_fail 10 = .ok (.iconst 0, 1) := by decide +kernel
theorem dX3_fail_11 : decode cX3_fail 11 = .ok (.ireturn, 1) := by decide +kernel
theorem dX3_oneOf_0 : decode cX3_oneOf 0 = .ok (.iconst 0, 1) := by decide +kernel
theorem dX3_oneOf_1 : decode cX3_oneOf 1 = .ok (.istore_n 2, 1) := by decide +kernel
theorem dX3_oneOf_2 : decode cX3_oneOf 2 = .ok (.iconst 0, 1) := by decide +kernel
theorem dX3_oneOf_3 : decode cX3_oneOf 3 = .ok (.istore_n 3, 1) := by decide +kernel
theorem dX3_oneOf_4 : decode cX3_oneOf 4 = .ok (.iconst 1, 1) := by decide +kernel
theorem dX3_oneOf_5 : decode cX3_oneOf 5 = .ok (.istore 4, 2) := by decide +kernel
theorem dX3_oneOf_7 : decode cX3_oneOf 7 = .ok (.iconst 0, 1) := by decide +kernel
theorem dX3_oneOf_8 : decode cX3_oneOf 8 = .ok (.istore 5, 2) := by decide +kernel
theorem dX3_oneOf_10 : decode cX3_oneOf 10 = .ok (.iload 5, 2) := by decide +kernel
theorem dX3_oneOf_12 : decode cX3_oneOf 12 = .ok (.aload_n 1, 1) := by decide +kernel
theorem dX3_oneOf_13 : decode cX3_oneOf 13 = .ok (.invokevirtual 258, 3) := by decide +kernel
theorem dX3_oneOf_16 : decode cX3_oneOf 16 = .ok (.if_icmp .ge 89, 3) := by decide +kernel
theorem dX3_oneOf_19 : decode cX3_oneOf 19 = .ok (.aload_n 1, 1) := by decide +kernel
theorem dX3_oneOf_20 : decode cX3_oneOf 20 = .ok (.iload 5, 2) := by decide +kernel
theorem dX3_oneOf_22 : decode cX3_oneOf 22 = .ok (.invokevirtual 263, 3) := by decide +kernel
theorem dX3_oneOf_25 : decode cX3_oneOf 25 = .ok (.istore 6, 2) := by decide +kernel
theorem dX3_oneOf_27 : decode cX3_oneOf 27 = .ok (.iload 6, 2) := by decide +kernel
theorem dX3_oneOf_29 : decode cX3_oneOf 29 = .ok (.bipush 32, 2) := by decide +kernel
theorem dX3_oneOf_31 : decode cX3_oneOf 31 = .ok (.if_icmp .eq 40, 3) := by decide +kernel
theorem dX3_oneOf_34 : decode cX3_oneOf 34 = .ok (.iload 4, 2) := by decide +kernel
theorem dX3_oneOf_36 : decode cX3_oneOf 36 = .ok (.ifCond .eq 26, 3) := by decide +kernel
theorem dX3_oneOf_39 : decode cX3_oneOf 39 = .ok (.aload_n 0, 1) := by decide +kernel
theorem dX3_oneOf_40 : decode cX3_oneOf 40 = .ok (.getfield 20, 3) := by decide +kernel
theorem dX3_oneOf_43 : decode cX3_oneOf 43 = .ok (.aload_n 0, 1) := by decide +kernel
theorem dX3_oneOf_44 : decode cX3_oneOf 44 = .ok (.getfield 80, 3) := by decide +kernel
theorem dX3_oneOf_47 : decode cX3_oneOf 47 = .ok (.iload_n 3, 1) := by decide +kernel
theorem dX3_oneOf_48 : decode cX3_oneOf 48 = .ok (.iadd, 1) := by decide +kernel
theorem dX3_oneOf_49 : decode cX3_oneOf 49 = .ok (.iconst 0, 1) := by decide +kernel
theorem dX3_oneOf_50 : decode cX3_oneOf 50 = .ok (.invokevirtual 184, 3) := by decide +kernel
theorem dX3_oneOf_53 : decode cX3_oneOf 53 = .ok (.iload 6, 2) := by decide +kernel
theorem dX3_oneOf_55 : decode cX3_oneOf 55 = .ok (.if_icmp .ne 7, 3) := by decide +kernel
theorem dX3_oneOf_58 : decode cX3_oneOf 58 = .ok (.iconst 1, 1) := by decide +kernel
theorem dX3_oneOf_59 : decode cX3_oneOf 59 = .ok (.goto 4, 3) := by decide +kernel
theorem dX3_oneOf_62 : decode cX3_oneOf 62 = .ok (.iconst 0, 1) := by decide +kernel
theorem dX3_oneOf_63 : decode cX3_oneOf 63 = .ok (.istore 4, 2) := by decide +kernel
theorem dX3_oneOf_65 : decode cX3_oneOf 65 = .ok (.iinc 3 1, 3) := by decide +kernel
theorem dX3_oneOf_68 : decode cX3_oneOf 68 = .ok (.goto 31, 3) := by decide +kernel
theorem dX3_oneOf_71 : decode cX3_oneOf 71 = .ok (.iload 4, 2) := by decide +kernel
theorem dX3_oneOf_73 : decode cX3_oneOf 73 = .ok (.ifCond .eq 18, 3) := by decide +kernel
theorem dX3_oneOf_76 : decode cX3_oneOf 76 = .ok (.iload_n 3, 1) := by decide +kernel
theorem dX3_oneOf_77 : decode cX3_oneOf 77 = .ok (.aload_n 0, 1) := by decide +kernel
theorem dX3_oneOf_78 : decode cX3_oneOf 78 = .ok (.getfield 95, 3) := by decide +kernel
theorem dX3_oneOf_81 : decode cX3_oneOf 81 = .ok (.aload_n 0, 1) := by decide +kernel
theorem dX3_oneOf_82 : decode cX3_oneOf 82 = .ok (.getfield 80, 3) := by decide +kernel
theorem dX3_oneOf_85 : decode cX3_oneOf 85 = .ok (.isub, 1) := by decide +kernel
theorem dX3_oneOf_86 : decode cX3_oneOf 86 = .ok (.if_icmp .ne 5, 3) := by decide +kernel
theorem dX3_oneOf_89 : decode cX3_oneOf 89 = .ok (.iload_n 2, 1) := by decide +kernel
theorem dX3_oneOf_90 : decode cX3_oneOf 90 = .ok (.ireturn, 1) := by decide +kernel
theorem dX3_oneOf_91 : decode cX3_oneOf 91 = .ok (.iinc 2 1, 3) := by decide +kernel
theorem dX3_oneOf_94 : decode cX3_oneOf 94 = .ok (.iconst 0, 1) := by decide +kernel
theorem dX3_oneOf_95 : decode cX3_oneOf 95 = .ok (.istore_n 3, 1) := by decide +kernel
theorem dX3_oneOf_96 : decode cX3_oneOf 96 = .ok (.iconst 1, 1) := by decide +kernel
theorem dX3_oneOf_97 : decode cX3_oneOf 97 = .ok (.istore 4, 2) := by decide +kernel
theorem dX3_oneOf_99 : decode cX3_oneOf 99 = .ok (.iinc 5 1, 3) := by decide +kernel
theorem dX3_oneOf_102 : decode cX3_oneOf 102 = .ok (.goto (-92), 3) := by decide +kernel
theorem dX3_oneOf_105 : decode cX3_oneOf 105 = .ok (.iload 4, 2) := by decide +kernel
theorem dX3_oneOf_107 : decode cX3_oneOf 107 = .ok (.ifCond .eq 20, 3) := by decide +kernel
theorem dX3_oneOf_110 : decode cX3_oneOf 110 = .ok (.iload_n 3, 1) := by decide +kernel
theorem dX3_oneOf_111 : decode cX3_oneOf 111 = .ok (.aload_n 0, 1) := by decide +kernel
theorem dX3_oneOf_112 : decode cX3_oneOf 112 = .ok (.getfield 95, 3) := by decide +kernel
theorem dX3_oneOf_115 : decode cX3_oneOf 115 = .ok (.aload_n 0, 1) := by decide +kernel
theorem dX3_oneOf_116 : decode cX3_oneOf 116 = .ok (.getfield 80, 3) := by decide +kernel
theorem dX3_oneOf_119 : decode cX3_oneOf 119 = .ok (.isub, 1) := by decide +kernel
theorem dX3_oneOf_120 : decode cX3_oneOf 120 = .ok (.if_icmp .ne 7, 3) := by decide +kernel
theorem dX3_oneOf_123 : decode cX3_oneOf 123 = .ok (.iload_n 2, 1) := by decide +kernel
theorem dX3_oneOf_124 : decode cX3_oneOf 124 = .ok (.goto 4, 3) := by decide +kernel
theorem dX3_oneOf_127 : decode cX3_oneOf 127 = .ok (.iconst (-1), 1) := by decide +kernel
theorem dX3_oneOf_128 : decode cX3_oneOf 128 = .ok (.ireturn, 1) := by decide +kernel
theorem dX3_goOn_0 : decode cX3_goOn 0 = .ok (.aload_n 0, 1) := by decide +kernel
theorem dX3_goOn_1 : decode cX3_goOn 1 = .ok (.aload_n 0, 1) := by decide +kernel
theorem dX3_goOn_2 : decode cX3_goOn 2 = .ok (.getfield 95, 3) := by decide +kernel
theorem dX3_goOn_5 : decode cX3_goOn 5 = .ok (.putfield 80, 3) := by decide +kernel
theorem dX3_goOn_8 : decode cX3_goOn 8 = .ok (.aload_n 0, 1) := by decide +kernel
theorem dX3_goOn_9 : decode cX3_goOn 9 = .ok (.getfield 80, 3) := by decide +kernel
theorem dX3_goOn_12 : decode cX3_goOn 12 = .ok (.aload_n 0, 1) := by decide +kernel
theorem dX3_goOn_13 : decode cX3_goOn 13 = .ok (.getfield 31, 3) := by decide +kernel
theorem dX3_goOn_16 : decode cX3_goOn 16 = .ok (.if_icmp .ge 33, 3) := by decide +kernel
theorem dX3_goOn_19 : decode cX3_goOn 19 = .ok (.aload_n 0, 1) := by decide +kernel
theorem dX3_goOn_20 : decode cX3_goOn 20 = .ok (.getfield 20, 3) := by decide +kernel
theorem dX3_goOn_23 : decode cX3_goOn 23 = .ok (.aload_n 0, 1) := by decide +kernel
theorem dX3_goOn_24 : decode cX3_goOn 24 = .ok (.getfield 80, 3) := by decide +kernel
theorem dX3_goOn_27 : decode cX3_goOn 27 = .ok (.iconst 0, 1) := by decide +kernel
theorem dX3_goOn_28 : decode cX3_goOn 28 = .ok (.invokevirtual 184, 3) := by decide +kernel
theorem dX3_goOn_31 : decode cX3_goOn 31 = .ok (.bipush 32, 2) := by decide +kernel
theorem dX3_goOn_33 : decode cX3_goOn 33 = .ok (.if_icmp .ne 16, 3) := by decide +kernel
theorem dX3_goOn_36 : decode cX3_goOn 36 = .ok (.aload_n 0, 1) := by decide +kernel
theorem dX3_goOn_37 : decode cX3_goOn 37 = .ok (.dup, 1) := by decide +kernel
theorem dX3_goOn_38 : decode cX3_goOn 38 = .ok (.getfield 80, 3) := by decide +kernel
theorem dX3_goOn_41 : decode cX3_goOn 41 = .ok (.iconst 1, 1) := by decide +kernel
theorem dX3_goOn_42 : decode cX3_goOn 42 = .ok (.iadd, 1) := by decide +kernel
theorem dX3_goOn_43 : decode cX3_goOn 43 = .ok (.putfield 80, 3) := by decide +kernel
theorem dX3_goOn_46 : decode cX3_goOn 46 = .ok (.goto (-38), 3) := by decide +kernel
theorem dX3_goOn_49 : decode cX3_goOn 49 = .ok (.aload_n 0, 1) := by decide +kernel
theorem dX3_goOn_50 : decode cX3_goOn 50 = .ok (.aload_n 0, 1) := by decide +kernel
theorem dX3_goOn_51 : decode cX3_goOn 51 = .ok (.getfield 80, 3) := by decide +kernel
theorem dX3_goOn_54 : decode cX3_goOn 54 = .ok (.iconst 1, 1) := by decide +kernel
theorem dX3_goOn_55 : decode cX3_goOn 55 = .ok (.iadd, 1) := by decide +kernel
theorem dX3_goOn_56 : decode cX3_goOn 56 = .ok (.aload_n 0, 1) := by decide +kernel
theorem dX3_goOn_57 : decode cX3_goOn 57 = .ok (.getfield 31, 3) := by decide +kernel
theorem dX3_goOn_60 : decode cX3_goOn 60 = .ok (.invokestatic 267, 3) := by decide +kernel
theorem dX3_goOn_63 : decode cX3_goOn 63 = .ok (.putfield 95, 3) := by decide +kernel
theorem dX3_goOn_66 : decode cX3_goOn 66 = .ok (.aload_n 0, 1) := by decide +kernel
theorem dX3_goOn_67 : decode cX3_goOn 67 = .ok (.getfield 80, 3) := by decide +kernel
theorem dX3_goOn_70 : decode cX3_goOn 70 = .ok (.aload_n 0, 1) := by decide +kernel
theorem dX3_goOn_71 : decode cX3_goOn 71 = .ok (.getfield 31, 3) := by decide +kernel
theorem dX3_goOn_74 : decode cX3_goOn 74 = .ok (.if_icmp .lt 9, 3) := by decide +kernel
theorem dX3_goOn_77 : decode cX3_goOn 77 = .ok (.aload_n 0, 1) := by decide +kernel
theorem dX3_goOn_78 : decode cX3_goOn 78 = .ok (.iconst 5, 1) := by decide +kernel
theorem dX3_goOn_79 : decode cX3_goOn 79 = .ok (.putfield 70, 3) := by decide +kernel
theorem dX3_goOn_82 : decode cX3_goOn 82 = .ok (.return_, 1) := by decide +kernel
theorem dX3_goOn_83 : decode cX3_goOn 83 = .ok (.aload_n 0, 1) := by decide +kernel
theorem dX3_goOn_84 : decode cX3_goOn 84 = .ok (.aload_n 0, 1) := by decide +kernel
theorem dX3_goOn_85 : decode cX3_goOn 85 = .ok (.aload_n 0, 1) := by decide +kernel
theorem dX3_goOn_86 : decode cX3_goOn 86 = .ok (.getfield 20, 3) := by decide +kernel
theorem dX3_goOn_89 : decode cX3_goOn 89 = .ok (.aload_n 0, 1) := by decide +kernel
theorem dX3_goOn_90 : decode cX3_goOn 90 = .ok (.getfield 80, 3) := by decide +kernel
theorem dX3_goOn_93 : decode cX3_goOn 93 = .ok (.iconst 0, 1) := by decide +kernel
theorem dX3_goOn_94 : decode cX3_goOn 94 = .ok (.invokevirtual 184, 3) := by decide +kernel
theorem dX3_goOn_97 : decode cX3_goOn 97 = .ok (.invokevirtual 272, 3) := by decide +kernel
theorem dX3_goOn_100 : decode cX3_goOn 100 = .ok (.putfield 70, 3) := by decide +kernel
theorem dX3_goOn_103 : decode cX3_goOn 103 = .ok (.aload_n 0, 1) := by decide +kernel
theorem dX3_goOn_104 : decode cX3_goOn 104 = .ok (.getfield 70, 3) := by decide +kernel
theorem dX3_goOn_107 : decode cX3_goOn 107 = .ok (.iconst 1, 1) := by decide +kernel
theorem dX3_goOn_108 : decode cX3_goOn 108 = .ok (.if_icmp .eq 12, 3) := by decide +kernel
theorem dX3_goOn_111 : decode cX3_goOn 111 = .ok (.aload_n 0, 1) := by decide +kernel
theorem dX3_goOn_112 : decode cX3_goOn 112 = .ok (.getfield 70, 3) := by decide +kernel
theorem dX3_goOn_115 : decode cX3_goOn 115 = .ok (.iconst 2, 1) := by decide +kernel
theorem dX3_goOn_116 : decode cX3_goOn 116 = .ok (.if_icmp .eq 4, 3) := by decide +kernel
theorem dX3_goOn_119 : decode cX3_goOn 119 = .ok (.return_, 1) := by decide +kernel
theorem dX3_goOn_120 : decode cX3_goOn 120 = .ok (.aload_n 0, 1) := by decide +kernel
theorem dX3_goOn_121 : decode cX3_goOn 121 = .ok (.iconst 0, 1) := by decide +kernel
theorem dX3_goOn_122 : decode cX3_goOn 122 = .ok (.putfield 255, 3) := by decide +kernel
theorem dX3_goOn_125 : decode cX3_goOn 125 = .ok (.aload_n 0, 1) := by decide +kernel
theorem dX3_goOn_126 : decode cX3_goOn 126 = .ok (.aload_n 0, 1) := by decide +kernel
theorem dX3_goOn_127 : decode cX3_goOn 127 = .ok (.getfield 80, 3) := by decide +kernel
theorem dX3_goOn_130 : decode cX3_goOn 130 = .ok (.putfield 95, 3) := by decide +kernel
theorem dX3_goOn_133 : decode cX3_goOn 133 = .ok (.aload_n 0, 1) := by decide +kernel
theorem dX3_goOn_134 : decode cX3_goOn 134 = .ok (.getfield 95, 3) := by decide +kernel
theorem dX3_goOn_137 : decode cX3_goOn 137 = .ok (.aload_n 0, 1) := by decide +kernel
theorem dX3_goOn_138 : decode cX3_goOn 138 = .ok (.getfield 31, 3) := by decide +kernel
theorem dX3_goOn_141 : decode cX3_goOn 141 = .ok (.if_icmp .ge 86, 3) := by decide +kernel
theorem dX3_goOn_144 : decode cX3_goOn 144 = .ok (.aload_n 0, 1) := by decide +kernel
theorem dX3_goOn_145 : decode cX3_goOn 145 = .ok (.aload_n 0, 1) := by decide +kernel
theorem dX3_goOn_146 : decode cX3_goOn 146 = .ok (.getfield 20, 3) := by decide +kernel
theorem dX3_goOn_149 : decode cX3_goOn 149 = .ok (.aload_n 0, 1) := by decide +kernel
theorem dX3_goOn_150 : decode cX3_goOn 150 = .ok (.getfield 95, 3) := by decide +kernel
theorem dX3_goOn_153 : decode cX3_goOn 153 = .ok (.iconst 0, 1) := by decide +kernel
theorem dX3_goOn_154 : decode cX3_goOn 154 = .ok (.invokevirtual 184, 3) := by decide +kernel
theorem dX3_goOn_157 : decode cX3_goOn 157 = .ok (.invokevirtual 272, 3) := by decide +kernel
theorem dX3_goOn_160 : decode cX3_goOn 160 = .ok (.aload_n 0, 1) := by decide +kernel
theorem dX3_goOn_161 : decode cX3_goOn 161 = .ok (.getfield 70, 3) := by decide +kernel
theorem dX3_goOn_164 : decode cX3_goOn 164 = .ok (.if_icmp .ne 63, 3) := by decide +kernel
theorem dX3_goOn_167 : decode cX3_goOn 167 = .ok (.aload_n 0, 1) := by decide +kernel
theorem dX3_goOn_168 : decode cX3_goOn 168 = .ok (.aload_n 0, 1) := by decide +kernel
theorem dX3_goOn_169 : decode cX3_goOn 169 = .ok (.getfield 95, 3) := by decide +kernel
theorem dX3_goOn_172 : decode cX3_goOn 172 = .ok (.aload_n 0, 1) := by decide +kernel
theorem dX3_goOn_173 : decode cX3_goOn 173 = .ok (.getfield 80, 3) := by decide +kernel
theorem dX3_goOn_176 : decode cX3_goOn 176 = .ok (.isub, 1) := by decide +kernel
theorem dX3_goOn_177 : decode cX3_goOn 177 = .ok (.iconst 3, 1) := by decide +kernel
theorem dX3_goOn_178 : decode cX3_goOn 178 = .ok (.if_icmp .ge 29, 3) := by decide +kernel
theorem dX3_goOn_181 : decode cX3_goOn 181 = .ok (.aload_n 0, 1) := by decide +kernel
theorem dX3_goOn_182 : decode cX3_goOn 182 = .ok (.getfield 255, 3) := by decide +kernel
theorem dX3_goOn_185 : decode cX3_goOn 185 = .ok (.bipush 10, 2) := by decide +kernel
theorem dX3_goOn_187 : decode cX3_goOn 187 = .ok (.imul, 1) := by decide +kernel
theorem dX3_goOn_188 : decode cX3_goOn 188 = .ok (.aload_n 0, 1) := by decide +kernel
theorem dX3_goOn_189 : decode cX3_goOn 189 = .ok (.getfield 20, 3) := by decide +kernel
theorem dX3_goOn_192 : decode cX3_goOn 192 = .ok (.aload_n 0, 1) := by decide +kernel
theorem dX3_goOn_193 : decode cX3_goOn 193 = .ok (.getfield 95, 3) := by decide +kernel
theorem dX3_goOn_196 : decode cX3_goOn 196 = .ok (.iconst 0, 1) := by decide +kernel
theorem dX3_goOn_197 : decode cX3_goOn 197 = .ok (.invokevirtual 184, 3) := by decide +kernel
theorem dX3_goOn_200 : decode cX3_goOn 200 = .ok (.iadd, 1) := by decide +kernel
theorem dX3_goOn_201 : decode cX3_goOn 201 = .ok (.bipush 48, 2) := by decide +kernel
theorem dX3_goOn_203 : decode cX3_goOn 203 = .ok (.isub, 1) := by decide +kernel
theorem dX3_goOn_204 : decode cX3_goOn 204 = .ok (.goto 7, 3) := by decide +kernel
theorem dX3_goOn_207 : decode cX3_goOn 207 = .ok (.aload_n 0, 1) := by decide +kernel
theorem dX3_goOn_208 : decode cX3_goOn 208 = .ok (.getfield 255, 3) := by decide +kernel
theorem dX3_goOn_211 : decode cX3_goOn 211 = .ok (.putfield 255, 3) := by decide +kernel
theorem dX3_goOn_214 : decode cX3_goOn 214 = .ok (.aload_n 0, 1) := by decide +kernel
theorem dX3_goOn_215 : decode cX3_goOn 215 = .ok (.dup, 1) := by decide +kernel
theorem dX3_goOn_216 : decode cX3_goOn 216 = .ok (.getfield 95, 3) := by decide +kernel
theorem dX3_goOn_219 : decode cX3_goOn 219 = .ok (.iconst 1, 1) := by decide +kernel
theorem dX3_goOn_220 : decode cX3_goOn 220 = .ok (.iadd, 1) := by decide +kernel
theorem dX3_goOn_221 : decode cX3_goOn 221 = .ok (.putfield 95, 3) := by decide +kernel
theorem dX3_goOn_224 : decode cX3_goOn 224 = .ok (.goto (-91), 3) := by decide +kernel
theorem dX3_goOn_227 : decode cX3_goOn 227 = .ok (.aload_n 0, 1) := by decide +kernel
theorem dX3_goOn_228 : decode cX3_goOn 228 = .ok (.getfield 95, 3) := by decide +kernel
theorem dX3_goOn_231 : decode cX3_goOn 231 = .ok (.aload_n 0, 1) := by decide +kernel
theorem dX3_goOn_232 : decode cX3_goOn 232 = .ok (.getfield 80, 3) := by decide +kernel
theorem dX3_goOn_235 : decode cX3_goOn 235 = .ok (.isub, 1) := by decide +kernel
theorem dX3_goOn_236 : decode cX3_goOn 236 = .ok (.aload_n 0, 1) := by decide +kernel
theorem dX3_goOn_237 : decode cX3_goOn 237 = .ok (.getfield 70, 3) := by decide +kernel
theorem dX3_goOn_240 : decode cX3_goOn 240 = .ok (.iconst 1, 1) := by decide +kernel
theorem dX3_goOn_241 : decode cX3_goOn 241 = .ok (.if_icmp .ne 8, 3) := by decide +kernel
theorem dX3_goOn_244 : decode cX3_goOn 244 = .ok (.bipush 8, 2) := by decide +kernel
theorem dX3_goOn_246 : decode cX3_goOn 246 = .ok (.goto 4, 3) := by decide +kernel
theorem dX3_goOn_249 : decode cX3_goOn 249 = .ok (.iconst 3, 1) := by decide +kernel
theorem dX3_goOn_250 : decode cX3_goOn 250 = .ok (.if_icmp .le 8, 3) := by decide +kernel
theorem dX3_goOn_253 : decode cX3_goOn 253 = .ok (.aload_n 0, 1) := by decide +kernel
theorem dX3_goOn_254 : decode cX3_goOn 254 = .ok (.iconst 0, 1) := by decide +kernel
theorem dX3_goOn_255 : decode cX3_goOn 255 = .ok (.putfield 70, 3) := by decide +kernel
theorem dX3_goOn_258 : decode cX3_goOn 258 = .ok (.return_, 1) := by decide +kernel
theorem dX3_sortOf_0 : decode cX3_sortOf 0 = .ok (.iload_n 1, 1) := by decide +kernel
theorem dX3_sortOf_1 : decode cX3_sortOf 1 = .ok (.bipush 97, 2) := by decide +kernel
theorem dX3_sortOf_3 : decode cX3_sortOf 3 = .ok (.if_icmp .lt 11, 3) := by decide +kernel
theorem dX3_sortOf_6 : decode cX3_sortOf 6 = .ok (.iload_n 1, 1) := by decide +kernel
theorem dX3_sortOf_7 : decode cX3_sortOf 7 = .ok (.bipush 122, 2) := by decide +kernel
theorem dX3_sortOf_9 : decode cX3_sortOf 9 = .ok (.if_icmp .gt 5, 3) := by decide +kernel
theorem dX3_sortOf_12 : decode cX3_sortOf 12 = .ok (.iconst 1, 1) := by decide +kernel
theorem dX3_sortOf_13 : decode cX3_sortOf 13 = .ok (.ireturn, 1) := by decide +kernel
theorem dX3_sortOf_14 : decode cX3_sortOf 14 = .ok (.iload_n 1, 1) := by decide +kernel
theorem dX3_sortOf_15 : decode cX3_sortOf 15 = .ok (.bipush 48, 2) := by decide +kernel
theorem dX3_sortOf_17 : decode cX3_sortOf 17 = .ok (.if_icmp .lt 11, 3) := by decide +kernel
theorem dX3_sortOf_20 : decode cX3_sortOf 20 = .ok (.iload_n 1, 1) := by decide +kernel
theorem dX3_sortOf_21 : decode cX3_sortOf 21 = .ok (.bipush 57, 2) := by decide +kernel
theorem dX3_sortOf_23 : decode cX3_sortOf 23 = .ok (.if_icmp .gt 5, 3) := by decide +kernel
theorem dX3_sortOf_26 : decode cX3_sortOf 26 = .ok (.iconst 2, 1) := by decide +kernel
theorem dX3_sortOf_27 : decode cX3_sortOf 27 = .ok (.ireturn, 1) := by decide +kernel
theorem dX3_sortOf_28 : decode cX3_sortOf 28 = .ok (.iload_n 1, 1) := by decide +kernel
theorem dX3_sortOf_29 : decode cX3_sortOf 29 = .ok (.bipush 59, 2) := by decide +kernel
theorem dX3_sortOf_31 : decode cX3_sortOf 31 = .ok (.if_icmp .ne 7, 3) := by decide +kernel
theorem dX3_sortOf_34 : decode cX3_sortOf 34 = .ok (.iconst 3, 1) := by decide +kernel
theorem dX3_sortOf_35 : decode cX3_sortOf 35 = .ok (.goto 14, 3) := by decide +kernel
theorem dX3_sortOf_38 : decode cX3_sortOf 38 = .ok (.iload_n 1, 1) := by decide +kernel
theorem dX3_sortOf_39 : decode cX3_sortOf 39 = .ok (.bipush 44, 2) := by decide +kernel
theorem dX3_sortOf_41 : decode cX3_sortOf 41 = .ok (.if_icmp .ne 7, 3) := by decide +kernel
theorem dX3_sortOf_44 : decode cX3_sortOf 44 = .ok (.iconst 4, 1) := by decide +kernel
theorem dX3_sortOf_45 : decode cX3_sortOf 45 = .ok (.goto 4, 3) := by decide +kernel
theorem dX3_sortOf_48 : decode cX3_sortOf 48 = .ok (.iconst 0, 1) := by decide +kernel
theorem dX3_sortOf_49 : decode cX3_sortOf 49 = .ok (.ireturn, 1) := by decide +kernel
theorem dX4_init_0 : decode cX4_init 0 = .ok (.aload_n 0, 1) := by decide +kernel
theorem dX4_init_1 : decode cX4_init 1 = .ok (.invokespecial 3, 3) := by decide +kernel
theorem dX4_init_4 : decode cX4_init 4 = .ok (.aload_n 0, 1) := by decide +kernel
theorem dX4_init_5 : decode cX4_init 5 = .ok (.new 9, 3) := by decide +kernel
theorem dX4_init_8 : decode cX4_init 8 = .ok (.dup, 1) := by decide +kernel
theorem dX4_init_9 : decode cX4_init 9 = .ok (.sipush 208, 3) := by decide +kernel
theorem dX4_init_12 : decode cX4_init 12 = .ok (.iconst 1, 1) := by decide +kernel
theorem dX4_init_13 : decode cX4_init 13 = .ok (.invokespecial 11, 3) := by decide +kernel
theorem dX4_init_16 : decode cX4_init 16 = .ok (.putfield 14, 3) := by decide +kernel
theorem dX4_init_19 : decode cX4_init 19 = .ok (.aload_n 0, 1) := by decide +kernel
theorem dX4_init_20 : decode cX4_init 20 = .ok (.new 9, 3) := by decide +kernel
theorem dX4_init_23 : decode cX4_init 23 = .ok (.dup, 1) := by decide +kernel
theorem dX4_init_24 : decode cX4_init 24 = .ok (.bipush 16, 2) := by decide +kernel
theorem dX4_init_26 : decode cX4_init 26 = .ok (.iconst 5, 1) := by decide +kernel
theorem dX4_init_27 : decode cX4_init 27 = .ok (.invokespecial 11, 3) := by decide +kernel
theorem dX4_init_30 : decode cX4_init 30 = .ok (.putfield 20, 3) := by decide +kernel
theorem dX4_init_33 : decode cX4_init 33 = .ok (.aload_n 0, 1) := by decide +kernel
theorem dX4_init_34 : decode cX4_init 34 = .ok (.new 9, 3) := by decide +kernel
theorem dX4_init_37 : decode cX4_init 37 = .ok (.dup, 1) := by decide +kernel
theorem dX4_init_38 : decode cX4_init 38 = .ok (.iconst 4, 1) := by decide +kernel
theorem dX4_init_39 : decode cX4_init 39 = .ok (.iconst 1, 1) := by decide +kernel
theorem dX4_init_40 : decode cX4_init 40 = .ok (.invokespecial 11, 3) := by decide +kernel
theorem dX4_init_43 : decode cX4_init 43 = .ok (.putfield 23, 3) := by decide +kernel
theorem dX4_init_46 : decode cX4_init 46 = .ok (.aload_n 0, 1) := by decide +kernel
theorem dX4_init_47 : decode cX4_init 47 = .ok (.bipush (-2), 2) := by decide +kernel
theorem dX4_init_49 : decode cX4_init 49 = .ok (.putfield 26, 3) := by decide +kernel
theorem dX4_init_52 : decode cX4_init 52 = .ok (.return_, 1) := by decide +kernel
theorem dX4_copy_0 : decode cX4_copy 0 = .ok (.aload_n 1, 1) := by decide +kernel
theorem dX4_copy_1 : decode cX4_copy 1 = .ok (.ifnonnull 4, 3) := by decide +kernel
theorem dX4_copy_4 : decode cX4_copy 4 = .ok (.return_, 1) := by decide +kernel
theorem dX4_copy_5 : decode cX4_copy 5 = .ok (.aload_n 0, 1) := by decide +kernel
theorem dX4_copy_6 : decode cX4_copy 6 = .ok (.getfield 14, 3) := by decide +kernel
theorem dX4_copy_9 : decode cX4_copy 9 = .ok (.aload_n 1, 1) := by decide +kernel
theorem dX4_copy_10 : decode cX4_copy 10 = .ok (.getfield 14, 3) := by decide +kernel
theorem dX4_copy_13 : decode cX4_copy 13 = .ok (.invokevirtual 30, 3) := by decide +kernel
theorem dX4_copy_16 : decode cX4_copy 16 = .ok (.aload_n 0, 1) := by decide +kernel
theorem dX4_copy_17 : decode cX4_copy 17 = .ok (.getfield 20, 3) := by decide +kernel
theorem dX4_copy_20 : decode cX4_copy 20 = .ok (.aload_n 1, 1) := by decide +kernel
theorem dX4_copy_21 : decode cX4_copy 21 = .ok (.getfield 20, 3) := by decide +kernel
theorem dX4_copy_24 : decode cX4_copy 24 = .ok (.invokevirtual 30, 3) := by decide +kernel
theorem dX4_copy_27 : decode cX4_copy 27 = .ok (.aload_n 0, 1) := by decide +kernel
theorem dX4_copy_28 : decode cX4_copy 28 = .ok (.getfield 23, 3) := by decide +kernel
theorem dX4_copy_31 : decode cX4_copy 31 = .ok (.aload_n 1, 1) := by decide +kernel
theorem dX4_copy_32 : decode cX4_copy 32 = .ok (.getfield 23, 3) := by decide +kernel
theorem dX4_copy_35 : decode cX4_copy 35 = .ok (.invokevirtual 30, 3) := by decide +kernel
theorem dX4_copy_38 : decode cX4_copy 38 = .ok (.aload_n 0, 1) := by decide +kernel
theorem dX4_copy_39 : decode cX4_copy 39 = .ok (.aload_n 1, 1) := by decide +kernel
theorem dX4_copy_40 : decode cX4_copy 40 = .ok (.getfield 34, 3) := by decide +kernel
theorem dX4_copy_43 : decode cX4_copy 43 = .ok (.putfield 34, 3) := by decide +kernel
theorem dX4_copy_46 : decode cX4_copy 46 = .ok (.aload_n 0, 1) := by decide +kernel
theorem dX4_copy_47 : decode cX4_copy 47 = .ok (.aload_n 1, 1) := by decide +kernel
theorem dX4_copy_48 : decode cX4_copy 48 = .ok (.getfield 37, 3) := by decide +kernel
theorem dX4_copy_51 : decode cX4_copy 51 = .ok (.putfield 37, 3) := by decide +kernel
theorem dX4_copy_54 : decode cX4_copy 54 = .ok (.aload_n 0, 1) := by decide +kernel
theorem dX4_copy_55 : decode cX4_copy 55 = .ok (.aload_n 1, 1) := by decide +kernel
theorem dX4_copy_56 : decode cX4_copy 56 = .ok (.getfield 40, 3) := by decide +kernel
theorem dX4_copy_59 : decode cX4_copy 59 = .ok (.putfield 40, 3) := by decide +kernel
theorem dX4_copy_62 : decode cX4_copy 62 = .ok (.aload_n 0, 1) := by decide +kernel
theorem dX4_copy_63 : decode cX4_copy 63 = .ok (.aload_n 1, 1) := by decide +kernel
theorem dX4_copy_64 : decode cX4_copy 64 = .ok (.getfield 43, 3) := by decide +kernel
theorem dX4_copy_67 : decode cX4_copy 67 = .ok (.putfield 43, 3) := by decide +kernel
theorem dX4_copy_70 : decode cX4_copy 70 = .ok (.aload_n 0, 1) := by decide +kernel
theorem dX4_copy_71 : decode cX4_copy 71 = .ok (.aload_n 1, 1) := by decide +kernel
theorem dX4_copy_72 : decode cX4_copy 72 = .ok (.getfield 46, 3) := by decide +kernel
theorem dX4_copy_75 : decode cX4_copy 75 = .ok (.putfield 46, 3) := by decide +kernel
theorem dX4_copy_78 : decode cX4_copy 78 = .ok (.aload_n 0, 1) := by decide +kernel
theorem dX4_copy_79 : decode cX4_copy 79 = .ok (.aload_n 1, 1) := by decide +kernel
theorem dX4_copy_80 : decode cX4_copy 80 = .ok (.getfield 49, 3) := by decide +kernel
theorem dX4_copy_83 : decode cX4_copy 83 = .ok (.putfield 49, 3) := by decide +kernel
theorem dX4_copy_86 : decode cX4_copy 86 = .ok (.aload_n 0, 1) := by decide +kernel
theorem dX4_copy_87 : decode cX4_copy 87 = .ok (.aload_n 1, 1) := by decide +kernel
theorem dX4_copy_88 : decode cX4_copy 88 = .ok (.getfield 52, 3) := by decide +kernel
theorem dX4_copy_91 : decode cX4_copy 91 = .ok (.putfield 52, 3) := by decide +kernel
theorem dX4_copy_94 : decode cX4_copy 94 = .ok (.aload_n 0, 1) := by decide +kernel
theorem dX4_copy_95 : decode cX4_copy 95 = .ok (.aload_n 1, 1) := by decide +kernel
theorem dX4_copy_96 : decode cX4_copy 96 = .ok (.getfield 26, 3) := by decide +kernel
theorem dX4_copy_99 : decode cX4_copy 99 = .ok (.putfield 26, 3) := by decide +kernel
theorem dX4_copy_102 : decode cX4_copy 102 = .ok (.return_, 1) := by decide +kernel
theorem dX4_enter_0 : decode cX4_enter 0 = .ok (.aload_n 1, 1) := by decide +kernel
theorem dX4_enter_1 : decode cX4_enter 1 = .ok (.getfield 55, 3) := by decide +kernel
theorem dX4_enter_4 : decode cX4_enter 4 = .ok (.invokevirtual 60, 3) := by decide +kernel
theorem dX4_enter_7 : decode cX4_enter 7 = .ok (.istore_n 2, 1) := by decide +kernel
theorem dX4_enter_8 : decode cX4_enter 8 = .ok (.aload_n 0, 1) := by decide +kernel
theorem dX4_enter_9 : decode cX4_enter 9 = .ok (.getfield 14, 3) := by decide +kernel
theorem dX4_enter_12 : decode cX4_enter 12 = .ok (.iconst 0, 1) := by decide +kernel
theorem dX4_enter_13 : decode cX4_enter 13 = .ok (.invokevirtual 64, 3) := by decide +kernel
theorem dX4_enter_16 : decode cX4_enter 16 = .ok (.aload_n 0, 1) := by decide +kernel
theorem dX4_enter_17 : decode cX4_enter 17 = .ok (.getfield 20, 3) := by decide +kernel
theorem dX4_enter_20 : decode cX4_enter 20 = .ok (.iconst 0, 1) := by decide +kernel
theorem dX4_enter_21 : decode cX4_enter 21 = .ok (.invokevirtual 64, 3) := by decide +kernel
theorem dX4_enter_24 : decode cX4_enter 24 = .ok (.aload_n 0, 1) := by decide +kernel
theorem dX4_enter_25 : decode cX4_enter 25 = .ok (.getfield 23, 3) := by decide +kernel
theorem dX4_enter_28 : decode cX4_enter 28 = .ok (.iconst 0, 1) := by decide +kernel
theorem dX4_enter_29 : decode cX4_enter 29 = .ok (.invokevirtual 64, 3) := by decide +kernel
theorem dX4_enter_32 : decode cX4_enter 32 = .ok (.iconst 0, 1) := by decide +kernel
theorem dX4_enter_33 : decode cX4_enter 33 = .ok (.istore_n 3, 1) := by decide +kernel
theorem dX4_enter_34 : decode cX4_enter 34 = .ok (.iload_n 3, 1) := by decide +kernel
theorem dX4_enter_35 : decode cX4_enter 35 = .ok (.iload_n 2, 1) := by decide +kernel
theorem dX4_enter_36 : decode cX4_enter 36 = .ok (.if_icmp .ge 28, 3) := by decide +kernel
theorem dX4_enter_39 : decode cX4_enter 39 = .ok (.aload_n 0, 1) := by decide +kernel
theorem dX4_enter_40 : decode cX4_enter 40 = .ok (.getfield 14, 3) := by decide +kernel
theorem dX4_enter_43 : decode cX4_enter 43 = .ok (.aload_n 1, 1) := by decide +kernel
theorem dX4_enter_44 : decode cX4_enter 44 = .ok (.getfield 68, 3) := by decide +kernel
theorem dX4_enter_47 : decode cX4_enter 47 = .ok (.invokevirtual 71, 3) := by decide +kernel
theorem dX4_enter_50 : decode cX4_enter 50 = .ok (.aload_n 0, 1) := by decide +kernel
theorem dX4_enter_51 : decode cX4_enter 51 = .ok (.getfield 20, 3) := by decide +kernel
theorem dX4_enter_54 : decode cX4_enter 54 = .ok (.iload_n 3, 1) := by decide +kernel
theorem dX4_enter_55 : decode cX4_enter 55 = .ok (.invokevirtual 71, 3) := by decide +kernel
theorem dX4_enter_58 : decode cX4_enter 58 = .ok (.iinc 3 1, 3) := by decide +kernel
theorem dX4_enter_61 : decode cX4_enter 61 = .ok (.goto (-27), 3) := by decide +kernel
theorem dX4_enter_64 : decode cX4_enter 64 = .ok (.aload_n 1, 1) := by decide +kernel
theorem dX4_enter_65 : decode cX4_enter 65 = .ok (.getfield 68, 3) := by decide +kernel
theorem dX4_enter_68 : decode cX4_enter 68 = .ok (.istore_n 3, 1) := by decide +kernel
theorem dX4_enter_69 : decode cX4_enter 69 = .ok (.iconst 0, 1) := by decide +kernel
theorem dX4_enter_70 : decode cX4_enter 70 = .ok (.istore 4, 2) := by decide +kernel
theorem dX4_enter_72 : decode cX4_enter 72 = .ok (.iload 4, 2) := by decide +kernel
theorem dX4_enter_74 : decode cX4_enter 74 = .ok (.iload_n 2, 1) := by decide +kernel
theorem dX4_enter_75 : decode cX4_enter 75 = .ok (.if_icmp .ge 114, 3) := by decide +kernel
theorem dX4_enter_78 : decode cX4_enter 78 = .ok (.iload_n 2, 1) := by decide +kernel
theorem dX4_enter_79 : decode cX4_enter 79 = .ok (.iconst 1, 1) := by decide +kernel
theorem dX4_enter_80 : decode cX4_enter 80 = .ok (.isub, 1) := by decide +kernel
theorem dX4_enter_81 : decode cX4_enter 81 = .ok (.iload 4, 2) := by decide +kernel
theorem dX4_enter_83 : decode cX4_enter 83 = .ok (.isub, 1) := by decide +kernel
theorem dX4_enter_84 : decode cX4_enter 84 = .ok (.istore 5, 2) := by decide +kernel
theorem dX4_enter_86 : decode cX4_enter 86 = .ok (.aload_n 0, 1) := by decide +kernel
theorem dX4_enter_87 : decode cX4_enter 87 = .ok (.getfield 14, 3) := by decide +kernel
theorem dX4_enter_90 : decode cX4_enter 90 = .ok (.iload 5, 2) := by decide +kernel
theorem dX4_enter_92 : decode cX4_enter 92 = .ok (.iconst 0, 1) := by decide +kernel
theorem dX4_enter_93 : decode cX4_enter 93 = .ok (.iload_n 3, 1) := by decide +kernel
theorem dX4_enter_94 : decode cX4_enter 94 = .ok (.invokevirtual 74, 3) := by decide +kernel
theorem dX4_enter_97 : decode cX4_enter 97 = .ok (.aload_n 1, 1) := by decide +kernel
theorem dX4_enter_98 : decode cX4_enter 98 = .ok (.iload_n 3, 1) := by decide +kernel
theorem dX4_enter_99 : decode cX4_enter 99 = .ok (.aload_n 1, 1) := by decide +kernel
theorem dX4_enter_100 : decode cX4_enter 100 = .ok (.getfield 78, 3) := by decide +kernel
theorem dX4_enter_103 : decode cX4_enter 103 = .ok (.iconst 2, 1) := by decide +kernel
theorem dX4_enter_104 : decode cX4_enter 104 = .ok (.iadd, 1) := by decide +kernel
theorem dX4_enter_105 : decode cX4_enter 105 = .ok (.iconst 4, 1) := by decide +kernel
theorem dX4_enter_106 : decode cX4_enter 106 = .ok (.irem, 1) := by decide +kernel
theorem dX4_enter_107 : decode cX4_enter 107 = .ok (.invokevirtual 79, 3) := by decide +kernel
theorem dX4_enter_110 : decode cX4_enter 110 = .ok (.istore_n 3, 1) := by decide +kernel
theorem dX4_enter_111 : decode cX4_enter 111 = .ok (.aload_n 0, 1) := by decide +kernel
theorem dX4_enter_112 : decode cX4_enter 112 = .ok (.getfield 20, 3) := by decide +kernel
theorem dX4_enter_115 : decode cX4_enter 115 = .ok (.iload 4, 2) := by decide +kernel
theorem dX4_enter_117 : decode cX4_enter 117 = .ok (.iconst 1, 1) := by decide +kernel
theorem dX4_enter_118 : decode cX4_enter 118 = .ok (.iload 5, 2) := by decide +kernel
theorem dX4_enter_120 : decode cX4_enter 120 = .ok (.invokevirtual 74, 3) := by decide +kernel
theorem dX4_enter_123 : decode cX4_enter 123 = .ok (.aload_n 0, 1) := by decide +kernel
theorem dX4_enter_124 : decode cX4_enter 124 = .ok (.getfield 20, 3) := by decide +kernel
theorem dX4_enter_127 : decode cX4_enter 127 = .ok (.iload 4, 2) := by decide +kernel
theorem dX4_enter_129 : decode cX4_enter 129 = .ok (.iconst 2, 1) := by decide +kernel
theorem dX4_enter_130 : decode cX4_enter 130 = .ok (.aload_n 1, 1) := by decide +kernel
theorem dX4_enter_131 : decode cX4_enter 131 = .ok (.getfield 55, 3) := by decide +kernel
theorem dX4_enter_134 : decode cX4_enter 134 = .ok (.iload 4, 2) := by decide +kernel
theorem dX4_enter_136 : decode cX4_enter 136 = .ok (.iconst 0, 1) := by decide +kernel
theorem dX4_enter_137 : decode cX4_enter 137 = .ok (.invokevirtual 83, 3) := by decide +kernel
theorem dX4_enter_140 : decode cX4_enter 140 = .ok (.invokevirtual 74, 3) := by decide +kernel
theorem dX4_enter_143 : decode cX4_enter 143 = .ok (.aload_n 0, 1) := by decide +kernel
theorem dX4_enter_144 : decode cX4_enter 144 = .ok (.getfield 20, 3) := by decide +kernel
theorem dX4_enter_147 : decode cX4_enter 147 = .ok (.iload 4, 2) := by decide +kernel
theorem dX4_enter_149 : decode cX4_enter 149 = .ok (.iconst 3, 1) := by decide +kernel
theorem dX4_enter_150 : decode cX4_enter 150 = .ok (.aload_n 1, 1) := by decide +kernel
theorem dX4_enter_151 : decode cX4_enter 151 = .ok (.getfield 55, 3) := by decide +kernel
theorem dX4_enter_154 : decode cX4_enter 154 = .ok (.iload 4, 2) := by decide +kernel
theorem dX4_enter_156 : decode cX4_enter 156 = .ok (.iconst 1, 1) := by decide +kernel
theorem dX4_enter_157 : decode cX4_enter 157 = .ok (.invokevirtual 83, 3) := by decide +kernel
theorem dX4_enter_160 : decode cX4_enter 160 = .ok (.invokevirtual 74, 3) := by decide +kernel
theorem dX4_enter_163 : decode cX4_enter 163 = .ok (.aload_n 0, 1) := by decide +kernel
theorem dX4_enter_164 : decode cX4_enter 164 = .ok (.getfield 20, 3) := by decide +kernel
theorem dX4_enter_167 : decode cX4_enter 167 = .ok (.iload 4, 2) := by decide +kernel
theorem dX4_enter_169 : decode cX4_enter 169 = .ok (.iconst 4, 1) := by decide +kernel
theorem dX4_enter_170 : decode cX4_enter 170 = .ok (.aload_n 1, 1) := by decide +kernel
theorem dX4_enter_171 : decode cX4_enter 171 = .ok (.getfield 55, 3) := by decide +kernel
theorem dX4_enter_174 : decode cX4_enter 174 = .ok (.iload 4, 2) := by decide +kernel
theorem dX4_enter_176 : decode cX4_enter 176 = .ok (.iconst 2, 1) := by decide +kernel
theorem dX4_enter_177 : decode cX4_enter 177 = .ok (.invokevirtual 83, 3) := by decide +kernel
theorem dX4_enter_180 : decode cX4_enter 180 = .ok (.invokevirtual 74, 3) := by decide +kernel
theorem dX4_enter_183 : decode cX4_enter 183 = .ok (.iinc 4 1, 3) := by decide +kernel
theorem dX4_enter_186 : decode cX4_enter 186 = .ok (.goto (-114), 3) := by decide +kernel
theorem dX4_enter_189 : decode cX4_enter 189 = .ok (.iconst 0, 1) := by decide +kernel
theorem dX4_enter_190 : decode cX4_enter 190 = .ok (.istore 4, 2) := by decide +kernel
theorem dX4_enter_192 : decode cX4_enter 192 = .ok (.iload 4, 2) := by decide +kernel
theorem dX4_enter_194 : decode cX4_enter 194 = .ok (.aload_n 1, 1) := by decide +kernel
theorem dX4_enter_195 : decode cX4_enter 195 = .ok (.getfield 86, 3) := by decide +kernel
theorem dX4_enter_198 : decode cX4_enter 198 = .ok (.invokevirtual 60, 3) := by decide +kernel
theorem dX4_enter_201 : decode cX4_enter 201 = .ok (.if_icmp .ge 26, 3) := by decide +kernel
theorem dX4_enter_204 : decode cX4_enter 204 = .ok (.aload_n 0, 1) := by decide +kernel
theorem dX4_enter_205 : decode cX4_enter 205 = .ok (.getfield 23, 3) := by decide +kernel
theorem dX4_enter_208 : decode cX4_enter 208 = .ok (.aload_n 1, 1) := by decide +kernel
theorem dX4_enter_209 : decode cX4_enter 209 = .ok (.getfield 86, 3) := by decide +kernel
theorem dX4_enter_212 : decode cX4_enter 212 = .ok (.iload 4, 2) := by decide +kernel
theorem dX4_enter_214 : decode cX4_enter 214 = .ok (.iconst 5, 1) := by decide +kernel
theorem dX4_enter_215 : decode cX4_enter 215 = .ok (.invokevirtual 83, 3) := by decide +kernel
theorem dX4_enter_218 : decode cX4_enter 218 = .ok (.invokevirtual 71, 3) := by decide +kernel
theorem dX4_enter_221 : decode cX4_enter 221 = .ok (.iinc 4 1, 3) := by decide +kernel
theorem dX4_enter_224 : decode cX4_enter 224 = .ok (.goto (-32), 3) := by decide +kernel
theorem dX4_enter_227 : decode cX4_enter 227 = .ok (.aload_n 0, 1) := by decide +kernel
theorem dX4_enter_228 : decode cX4_enter 228 = .ok (.iconst 0, 1) := by decide +kernel
theorem dX4_enter_229 : decode cX4_enter 229 = .ok (.putfield 34, 3) := by decide +kernel
theorem dX4_enter_232 : decode cX4_enter 232 = .ok (.aload_n 0, 1) := by decide +kernel
theorem dX4_enter_233 : decode cX4_enter 233 = .ok (.iconst 0, 1) := by decide +kernel
theorem dX4_enter_234 : decode cX4_enter 234 = .ok (.putfield 37, 3) := by decide +kernel
theorem dX4_enter_237 : decode cX4_enter 237 = .ok (.aload_n 0, 1) := by decide +kernel
theorem dX4_enter_238 : decode cX4_enter 238 = .ok (.aload_n 1, 1) := by decide +kernel
theorem dX4_enter_239 : decode cX4_enter 239 = .ok (.getfield 89, 3) := by decide +kernel
theorem dX4_enter_242 : decode cX4_enter 242 = .ok (.putfield 40, 3) := by decide +kernel
theorem dX4_enter_245 : decode cX4_enter 245 = .ok (.aload_n 0, 1) := by decide +kernel
theorem dX4_enter_246 : decode cX4_enter 246 = .ok (.aload_n 1, 1) := by decide +kernel
theorem dX4_enter_247 : decode cX4_enter 247 = .ok (.getfield 78, 3) := by decide +kernel
theorem dX4_enter_250 : decode cX4_enter 250 = .ok (.putfield 43, 3) := by decide +kernel
theorem dX4_enter_253 : decode cX4_enter 253 = .ok (.aload_n 0, 1) := by decide +kernel
theorem dX4_enter_254 : decode cX4_enter 254 = .ok (.iconst 0, 1) := by decide +kernel
theorem dX4_enter_255 : decode cX4_enter 255 = .ok (.putfield 46, 3) := by decide +kernel
theorem dX4_enter_258 : decode cX4_enter 258 = .ok (.aload_n 0, 1) := by decide +kernel
theorem dX4_enter_259 : decode cX4_enter 259 = .ok (.iload_n 2, 1) := by decide +kernel
theorem dX4_enter_260 : decode cX4_enter 260 = .ok (.putfield 49, 3) := by decide +kernel
theorem dX4_enter_263 : decode cX4_enter 263 = .ok (.aload_n 0, 1) := by decide +kernel
theorem dX4_enter_264 : decode cX4_enter 264 = .ok (.iconst 0, 1) := by decide +kernel
theorem dX4_enter_265 : decode cX4_enter 265 = .ok (.putfield 52, 3) := by decide +kernel
theorem dX4_enter_268 : decode cX4_enter 268 = .ok (.aload_n 0, 1) := by decide +kernel
theorem dX4_enter_269 : decode cX4_enter 269 = .ok (.aload_n 1, 1) := by decide +kernel
theorem dX4_enter_270 : decode cX4_enter 270 = .ok (.getfield 90, 3) := by decide +kernel
theorem dX4_enter_273 : decode cX4_enter 273 = .ok (.putfield 26, 3) := by decide +kernel
theorem dX4_enter_276 : decode cX4_enter 276 = .ok (.return_, 1) := by decide +kernel
theorem dX4_cellOf_0 : decode cX4_cellOf 0 = .ok (.aload_n 0, 1) := by decide +kernel
theorem dX4_cellOf_1 : decode cX4_cellOf 1 = .ok (.getfield 14, 3) := by decide +kernel
theorem dX4_cellOf_4 : decode cX4_cellOf 4 = .ok (.aload_n 0, 1) := by decide +kernel
theorem dX4_cellOf_5 : decode cX4_cellOf 5 = .ok (.getfield 20, 3) := by decide +kernel
theorem dX4_cellOf_8 : decode cX4_cellOf 8 = .ok (.iload_n 1, 1) := by decide +kernel
theorem dX4_cellOf_9 : decode cX4_cellOf 9 = .ok (.iconst 1, 1) := by decide +kernel
theorem dX4_cellOf_10 : decode cX4_cellOf 10 = .ok (.invokevirtual 83, 3) := by decide +kernel
theorem dX4_cellOf_13 : decode cX4_cellOf 13 = .ok (.iconst 0, 1) := by decide +kernel
theorem dX4_cellOf_14 : decode cX4_cellOf 14 = .ok (.invokevirtual 83, 3) := by decide +kernel
theorem dX4_cellOf_17 : decode cX4_cellOf 17 = .ok (.ireturn, 1) := by decide +kernel
theorem dX4_gapOf_0 : decode cX4_gapOf 0 = .ok (.iload_n 1, 1) := by decide +kernel
theorem dX4_gapOf_1 : decode cX4_gapOf 1 = .ok (.iconst 1, 1) := by decide +kernel
theorem dX4_gapOf_2 : decode cX4_gapOf 2 = .ok (.if_icmp .ge 8, 3) := by decide +kernel
theorem dX4_gapOf_5 : decode cX4_gapOf 5 = .ok (.bipush (-2), 2) := by decide +kernel
theorem dX4_gapOf_7 : decode cX4_gapOf 7 = .ok (.goto 26, 3) := by decide +kernel
theorem dX4_gapOf_10 : decode cX4_gapOf 10 = .ok (.aload_n 0, 1) := by decide +kernel
theorem dX4_gapOf_11 : decode cX4_gapOf 11 = .ok (.getfield 20, 3) := by decide +kernel
theorem dX4_gapOf_14 : decode cX4_gapOf 14 = .ok (.iload_n 1, 1) := by decide +kernel
theorem dX4_gapOf_15 : decode cX4_gapOf 15 = .ok (.iconst 1, 1) := by decide +kernel
theorem dX4_gapOf_16 : decode cX4_gapOf 16 = .ok (.isub, 1) := by decide +kernel
theorem dX4_gapOf_17 : decode cX4_gapOf 17 = .ok (.iconst 1, 1) := by decide +kernel
theorem dX4_gapOf_18 : decode cX4_gapOf 18 = .ok (.invokevirtual 83, 3) := by decide +kernel
theorem dX4_gapOf_21 : decode cX4_gapOf 21 = .ok (.aload_n 0, 1) := by decide +kernel
theorem dX4_gapOf_22 : decode cX4_gapOf 22 = .ok (.getfield 20, 3) := by decide +kernel
theorem dX4_gapOf_25 : decode cX4_gapOf 25 = .ok (.iload_n 1, 1) := by decide +kernel
theorem dX4_gapOf_26 : decode cX4_gapOf 26 = .ok (.iconst 1, 1) := by decide +kernel
theorem dX4_gapOf_27 : decode cX4_gapOf 27 = .ok (.invokevirtual 83, 3) := by decide +kernel
theorem dX4_gapOf_30 : decode cX4_gapOf 30 = .ok (.isub, 1) := by decide +kernel
theorem dX4_gapOf_31 : decode cX4_gapOf 31 = .ok (.iconst 1, 1) := by decide +kernel
theorem dX4_gapOf_32 : decode cX4_gapOf 32 = .ok (.isub, 1) := by decide +kernel
theorem dX4_gapOf_33 : decode cX4_gapOf 33 = .ok (.ireturn, 1) := by decide +kernel
theorem dX4_find_0 : decode cX4_find 0 = .ok (.iconst 0, 1) := by decide +kernel
theorem dX4_find_1 : decode cX4_find 1 = .ok (.istore_n 2, 1) := by decide +kernel
theorem dX4_find_2 : decode cX4_find 2 = .ok (.iload_n 2, 1) := by decide +kernel
theorem dX4_find_3 : decode cX4_find 3 = .ok (.aload_n 0, 1) := by decide +kernel
theorem dX4_find_4 : decode cX4_find 4 = .ok (.getfield 20, 3) := by decide +kernel
theorem dX4_find_7 : decode cX4_find 7 = .ok (.invokevirtual 60, 3) := by decide +kernel
theorem dX4_find_10 : decode cX4_find 10 = .ok (.if_icmp .ge 24, 3) := by decide +kernel
theorem dX4_find_13 : decode cX4_find 13 = .ok (.aload_n 0, 1) := by decide +kernel
theorem dX4_find_14 : decode cX4_find 14 = .ok (.getfield 20, 3) := by decide +kernel
theorem dX4_find_17 : decode cX4_find 17 = .ok (.iload_n 2, 1) := by decide +kernel
