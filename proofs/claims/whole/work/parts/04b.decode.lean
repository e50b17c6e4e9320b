theorem dX4_find_18 : decode cX4_find 18 = .ok (.iconst 0, 1) := by decide +kernel
theorem dX4_find_19 : decode cX4_find 19 = .ok (.invokevirtual 83, 3) := by decide +kernel
theorem dX4_find_22 : decode cX4_find 22 = .ok (.iload_n 1, 1) := by decide +kernel
theorem dX4_find_23 : decode cX4_find 23 = .ok (.if_icmp .ne 5, 3) := by decide +kernel
theorem dX4_find_26 : decode cX4_find 26 = .ok (.iload_n 2, 1) := by decide +kernel
theorem dX4_find_27 : decode cX4_find 27 = .ok (.ireturn, 1) := by decide +kernel
theorem dX4_find_28 : decode cX4_find 28 = .ok (.iinc 2 1, 3) := by decide +kernel
theorem dX4_find_31 : decode cX4_find 31 = .ok (.goto (-29), 3) := by decide +kernel
theorem dX4_find_34 : decode cX4_find 34 = .ok (.iconst (-1), 1) := by decide +kernel
theorem dX4_find_35 : decode cX4_find 35 = .ok (.ireturn, 1) := by decide +kernel
theorem dX4_turnsAt_0 : decode cX4_turnsAt 0 = .ok (.iload_n 1, 1) := by decide +kernel
theorem dX4_turnsAt_1 : decode cX4_turnsAt 1 = .ok (.iconst 1, 1) := by decide +kernel
theorem dX4_turnsAt_2 : decode cX4_turnsAt 2 = .ok (.if_icmp .lt 16, 3) := by decide +kernel
theorem dX4_turnsAt_5 : decode cX4_turnsAt 5 = .ok (.iload_n 1, 1) := by decide +kernel
theorem dX4_turnsAt_6 : decode cX4_turnsAt 6 = .ok (.iconst 1, 1) := by decide +kernel
theorem dX4_turnsAt_7 : decode cX4_turnsAt 7 = .ok (.iadd, 1) := by decide +kernel
theorem dX4_turnsAt_8 : decode cX4_turnsAt 8 = .ok (.aload_n 0, 1) := by decide +kernel
theorem dX4_turnsAt_9 : decode cX4_turnsAt 9 = .ok (.getfield 14, 3) := by decide +kernel
theorem dX4_turnsAt_12 : decode cX4_turnsAt 12 = .ok (.invokevirtual 60, 3) := by decide +kernel
theorem dX4_turnsAt_15 : decode cX4_turnsAt 15 = .ok (.if_icmp .lt 5, 3) := by decide +kernel
theorem dX4_turnsAt_18 : decode cX4_turnsAt 18 = .ok (.iconst 0, 1) := by decide +kernel
theorem dX4_turnsAt_19 : decode cX4_turnsAt 19 = .ok (.ireturn, 1) := by decide +kernel
theorem dX4_turnsAt_20 : decode cX4_turnsAt 20 = .ok (.aload_n 0, 1) := by decide +kernel
theorem dX4_turnsAt_21 : decode cX4_turnsAt 21 = .ok (.getfield 14, 3) := by decide +kernel
theorem dX4_turnsAt_24 : decode cX4_turnsAt 24 = .ok (.iload_n 1, 1) := by decide +kernel
theorem dX4_turnsAt_25 : decode cX4_turnsAt 25 = .ok (.iconst 0, 1) := by decide +kernel
theorem dX4_turnsAt_26 : decode cX4_turnsAt 26 = .ok (.invokevirtual 83, 3) := by decide +kernel
theorem dX4_turnsAt_29 : decode cX4_turnsAt 29 = .ok (.istore_n 2, 1) := by decide +kernel
theorem dX4_turnsAt_30 : decode cX4_turnsAt 30 = .ok (.iload_n 2, 1) := by decide +kernel
theorem dX4_turnsAt_31 : decode cX4_turnsAt 31 = .ok (.aload_n 0, 1) := by decide +kernel
theorem dX4_turnsAt_32 : decode cX4_turnsAt 32 = .ok (.getfield 14, 3) := by decide +kernel
theorem dX4_turnsAt_35 : decode cX4_turnsAt 35 = .ok (.iload_n 1, 1) := by decide +kernel
theorem dX4_turnsAt_36 : decode cX4_turnsAt 36 = .ok (.iconst 1, 1) := by decide +kernel
theorem dX4_turnsAt_37 : decode cX4_turnsAt 37 = .ok (.isub, 1) := by decide +kernel
theorem dX4_turnsAt_38 : decode cX4_turnsAt 38 = .ok (.iconst 0, 1) := by decide +kernel
theorem dX4_turnsAt_39 : decode cX4_turnsAt 39 = .ok (.invokevirtual 83, 3) := by decide +kernel
theorem dX4_turnsAt_42 : decode cX4_turnsAt 42 = .ok (.isub, 1) := by decide +kernel
theorem dX4_turnsAt_43 : decode cX4_turnsAt 43 = .ok (.aload_n 0, 1) := by decide +kernel
theorem dX4_turnsAt_44 : decode cX4_turnsAt 44 = .ok (.getfield 14, 3) := by decide +kernel
theorem dX4_turnsAt_47 : decode cX4_turnsAt 47 = .ok (.iload_n 1, 1) := by decide +kernel
theorem dX4_turnsAt_48 : decode cX4_turnsAt 48 = .ok (.iconst 1, 1) := by decide +kernel
theorem dX4_turnsAt_49 : decode cX4_turnsAt 49 = .ok (.iadd, 1) := by decide +kernel
theorem dX4_turnsAt_50 : decode cX4_turnsAt 50 = .ok (.iconst 0, 1) := by decide +kernel
theorem dX4_turnsAt_51 : decode cX4_turnsAt 51 = .ok (.invokevirtual 83, 3) := by decide +kernel
theorem dX4_turnsAt_54 : decode cX4_turnsAt 54 = .ok (.iload_n 2, 1) := by decide +kernel
theorem dX4_turnsAt_55 : decode cX4_turnsAt 55 = .ok (.isub, 1) := by decide +kernel
theorem dX4_turnsAt_56 : decode cX4_turnsAt 56 = .ok (.if_icmp .eq 7, 3) := by decide +kernel
theorem dX4_turnsAt_59 : decode cX4_turnsAt 59 = .ok (.iconst 1, 1) := by decide +kernel
theorem dX4_turnsAt_60 : decode cX4_turnsAt 60 = .ok (.goto 4, 3) := by decide +kernel
theorem dX4_turnsAt_63 : decode cX4_turnsAt 63 = .ok (.iconst 0, 1) := by decide +kernel
theorem dX4_turnsAt_64 : decode cX4_turnsAt 64 = .ok (.ireturn, 1) := by decide +kernel
theorem dX4_costFrom_0 : decode cX4_costFrom 0 = .ok (.iload_n 2, 1) := by decide +kernel
theorem dX4_costFrom_1 : decode cX4_costFrom 1 = .ok (.iconst 2, 1) := by decide +kernel
theorem dX4_costFrom_2 : decode cX4_costFrom 2 = .ok (.if_icmp .eq 11, 3) := by decide +kernel
theorem dX4_costFrom_5 : decode cX4_costFrom 5 = .ok (.aload_n 0, 1) := by decide +kernel
theorem dX4_costFrom_6 : decode cX4_costFrom 6 = .ok (.iload_n 1, 1) := by decide +kernel
theorem dX4_costFrom_7 : decode cX4_costFrom 7 = .ok (.invokevirtual 91, 3) := by decide +kernel
theorem dX4_costFrom_10 : decode cX4_costFrom 10 = .ok (.ifCond .ne 5, 3) := by decide +kernel
theorem dX4_costFrom_13 : decode cX4_costFrom 13 = .ok (.iconst 1, 1) := by decide +kernel
theorem dX4_costFrom_14 : decode cX4_costFrom 14 = .ok (.ireturn, 1) := by decide +kernel
theorem dX4_costFrom_15 : decode cX4_costFrom 15 = .ok (.iload_n 2, 1) := by decide +kernel
theorem dX4_costFrom_16 : decode cX4_costFrom 16 = .ok (.iconst 3, 1) := by decide +kernel
theorem dX4_costFrom_17 : decode cX4_costFrom 17 = .ok (.if_icmp .ne 7, 3) := by decide +kernel
theorem dX4_costFrom_20 : decode cX4_costFrom 20 = .ok (.iconst 3, 1) := by decide +kernel
theorem dX4_costFrom_21 : decode cX4_costFrom 21 = .ok (.goto 4, 3) := by decide +kernel
theorem dX4_costFrom_24 : decode cX4_costFrom 24 = .ok (.iconst 2, 1) := by decide +kernel
theorem dX4_costFrom_25 : decode cX4_costFrom 25 = .ok (.ireturn, 1) := by decide +kernel
theorem dX4_takeWho_0 : decode cX4_takeWho 0 = .ok (.aload_n 2, 1) := by decide +kernel
theorem dX4_takeWho_1 : decode cX4_takeWho 1 = .ok (.ifnonnull 4, 3) := by decide +kernel
theorem dX4_takeWho_4 : decode cX4_takeWho 4 = .ok (.return_, 1) := by decide +kernel
theorem dX4_takeWho_5 : decode cX4_takeWho 5 = .ok (.aload_n 0, 1) := by decide +kernel
theorem dX4_takeWho_6 : decode cX4_takeWho 6 = .ok (.getfield 20, 3) := by decide +kernel
theorem dX4_takeWho_9 : decode cX4_takeWho 9 = .ok (.iload_n 1, 1) := by decide +kernel
theorem dX4_takeWho_10 : decode cX4_takeWho 10 = .ok (.iconst 0, 1) := by decide +kernel
theorem dX4_takeWho_11 : decode cX4_takeWho 11 = .ok (.aload_n 2, 1) := by decide +kernel
theorem dX4_takeWho_12 : decode cX4_takeWho 12 = .ok (.getfield 20, 3) := by decide +kernel
theorem dX4_takeWho_15 : decode cX4_takeWho 15 = .ok (.iload_n 3, 1) := by decide +kernel
theorem dX4_takeWho_16 : decode cX4_takeWho 16 = .ok (.iconst 0, 1) := by decide +kernel
theorem dX4_takeWho_17 : decode cX4_takeWho 17 = .ok (.invokevirtual 83, 3) := by decide +kernel
theorem dX4_takeWho_20 : decode cX4_takeWho 20 = .ok (.invokevirtual 74, 3) := by decide +kernel
theorem dX4_takeWho_23 : decode cX4_takeWho 23 = .ok (.aload_n 0, 1) := by decide +kernel
theorem dX4_takeWho_24 : decode cX4_takeWho 24 = .ok (.getfield 20, 3) := by decide +kernel
theorem dX4_takeWho_27 : decode cX4_takeWho 27 = .ok (.iload_n 1, 1) := by decide +kernel
theorem dX4_takeWho_28 : decode cX4_takeWho 28 = .ok (.iconst 2, 1) := by decide +kernel
theorem dX4_takeWho_29 : decode cX4_takeWho 29 = .ok (.aload_n 2, 1) := by decide +kernel
theorem dX4_takeWho_30 : decode cX4_takeWho 30 = .ok (.getfield 20, 3) := by decide +kernel
theorem dX4_takeWho_33 : decode cX4_takeWho 33 = .ok (.iload_n 3, 1) := by decide +kernel
theorem dX4_takeWho_34 : decode cX4_takeWho 34 = .ok (.iconst 2, 1) := by decide +kernel
theorem dX4_takeWho_35 : decode cX4_takeWho 35 = .ok (.invokevirtual 83, 3) := by decide +kernel
theorem dX4_takeWho_38 : decode cX4_takeWho 38 = .ok (.invokevirtual 74, 3) := by decide +kernel
theorem dX4_takeWho_41 : decode cX4_takeWho 41 = .ok (.aload_n 0, 1) := by decide +kernel
theorem dX4_takeWho_42 : decode cX4_takeWho 42 = .ok (.getfield 20, 3) := by decide +kernel
theorem dX4_takeWho_45 : decode cX4_takeWho 45 = .ok (.iload_n 1, 1) := by decide +kernel
theorem dX4_takeWho_46 : decode cX4_takeWho 46 = .ok (.iconst 3, 1) := by decide +kernel
theorem dX4_takeWho_47 : decode cX4_takeWho 47 = .ok (.aload_n 2, 1) := by decide +kernel
theorem dX4_takeWho_48 : decode cX4_takeWho 48 = .ok (.getfield 20, 3) := by decide +kernel
theorem dX4_takeWho_51 : decode cX4_takeWho 51 = .ok (.iload_n 3, 1) := by decide +kernel
theorem dX4_takeWho_52 : decode cX4_takeWho 52 = .ok (.iconst 3, 1) := by decide +kernel
theorem dX4_takeWho_53 : decode cX4_takeWho 53 = .ok (.invokevirtual 83, 3) := by decide +kernel
theorem dX4_takeWho_56 : decode cX4_takeWho 56 = .ok (.invokevirtual 74, 3) := by decide +kernel
theorem dX4_takeWho_59 : decode cX4_takeWho 59 = .ok (.aload_n 0, 1) := by decide +kernel
theorem dX4_takeWho_60 : decode cX4_takeWho 60 = .ok (.getfield 20, 3) := by decide +kernel
theorem dX4_takeWho_63 : decode cX4_takeWho 63 = .ok (.iload_n 1, 1) := by decide +kernel
theorem dX4_takeWho_64 : decode cX4_takeWho 64 = .ok (.iconst 4, 1) := by decide +kernel
theorem dX4_takeWho_65 : decode cX4_takeWho 65 = .ok (.aload_n 2, 1) := by decide +kernel
theorem dX4_takeWho_66 : decode cX4_takeWho 66 = .ok (.getfield 20, 3) := by decide +kernel
theorem dX4_takeWho_69 : decode cX4_takeWho 69 = .ok (.iload_n 3, 1) := by decide +kernel
theorem dX4_takeWho_70 : decode cX4_takeWho 70 = .ok (.iconst 4, 1) := by decide +kernel
theorem dX4_takeWho_71 : decode cX4_takeWho 71 = .ok (.invokevirtual 83, 3) := by decide +kernel
theorem dX4_takeWho_74 : decode cX4_takeWho 74 = .ok (.invokevirtual 74, 3) := by decide +kernel
theorem dX4_takeWho_77 : decode cX4_takeWho 77 = .ok (.return_, 1) := by decide +kernel
theorem dX4_shutCells_0 : decode cX4_shutCells 0 = .ok (.aload_n 2, 1) := by decide +kernel
theorem dX4_shutCells_1 : decode cX4_shutCells 1 = .ok (.iload_n 1, 1) := by decide +kernel
theorem dX4_shutCells_2 : decode cX4_shutCells 2 = .ok (.iconst 0, 1) := by decide +kernel
theorem dX4_shutCells_3 : decode cX4_shutCells 3 = .ok (.invokevirtual 95, 3) := by decide +kernel
theorem dX4_shutCells_6 : decode cX4_shutCells 6 = .ok (.iconst 1, 1) := by decide +kernel
theorem dX4_shutCells_7 : decode cX4_shutCells 7 = .ok (.istore_n 3, 1) := by decide +kernel
theorem dX4_shutCells_8 : decode cX4_shutCells 8 = .ok (.iload_n 3, 1) := by decide +kernel
theorem dX4_shutCells_9 : decode cX4_shutCells 9 = .ok (.aload_n 0, 1) := by decide +kernel
theorem dX4_shutCells_10 : decode cX4_shutCells 10 = .ok (.getfield 20, 3) := by decide +kernel
theorem dX4_shutCells_13 : decode cX4_shutCells 13 = .ok (.invokevirtual 60, 3) := by decide +kernel
theorem dX4_shutCells_16 : decode cX4_shutCells 16 = .ok (.if_icmp .ge 20, 3) := by decide +kernel
theorem dX4_shutCells_19 : decode cX4_shutCells 19 = .ok (.aload_n 2, 1) := by decide +kernel
theorem dX4_shutCells_20 : decode cX4_shutCells 20 = .ok (.aload_n 0, 1) := by decide +kernel
theorem dX4_shutCells_21 : decode cX4_shutCells 21 = .ok (.iload_n 3, 1) := by decide +kernel
theorem dX4_shutCells_22 : decode cX4_shutCells 22 = .ok (.invokevirtual 98, 3) := by decide +kernel
theorem dX4_shutCells_25 : decode cX4_shutCells 25 = .ok (.iconst 0, 1) := by decide +kernel
theorem dX4_shutCells_26 : decode cX4_shutCells 26 = .ok (.iconst 1, 1) := by decide +kernel
theorem dX4_shutCells_27 : decode cX4_shutCells 27 = .ok (.invokevirtual 74, 3) := by decide +kernel
theorem dX4_shutCells_30 : decode cX4_shutCells 30 = .ok (.iinc 3 1, 3) := by decide +kernel
theorem dX4_shutCells_33 : decode cX4_shutCells 33 = .ok (.goto (-25), 3) := by decide +kernel
theorem dX4_shutCells_36 : decode cX4_shutCells 36 = .ok (.return_, 1) := by decide +kernel
theorem dX4_draw_0 : decode cX4_draw 0 = .ok (.aload_n 0, 1) := by decide +kernel
theorem dX4_draw_1 : decode cX4_draw 1 = .ok (.bipush 75, 2) := by decide +kernel
theorem dX4_draw_3 : decode cX4_draw 3 = .ok (.aload_n 0, 1) := by decide +kernel
theorem dX4_draw_4 : decode cX4_draw 4 = .ok (.getfield 37, 3) := by decide +kernel
theorem dX4_draw_7 : decode cX4_draw 7 = .ok (.imul, 1) := by decide +kernel
theorem dX4_draw_8 : decode cX4_draw 8 = .ok (.bipush 74, 2) := by decide +kernel
theorem dX4_draw_10 : decode cX4_draw 10 = .ok (.iadd, 1) := by decide +kernel
theorem dX4_draw_11 : decode cX4_draw 11 = .ok (.ldc 102, 2) := by decide +kernel
theorem dX4_draw_13 : decode cX4_draw 13 = .ok (.irem, 1) := by decide +kernel
theorem dX4_draw_14 : decode cX4_draw 14 = .ok (.putfield 37, 3) := by decide +kernel
theorem dX4_draw_17 : decode cX4_draw 17 = .ok (.aload_n 0, 1) := by decide +kernel
theorem dX4_draw_18 : decode cX4_draw 18 = .ok (.getfield 37, 3) := by decide +kernel
theorem dX4_draw_21 : decode cX4_draw 21 = .ok (.ireturn, 1) := by decide +kernel
theorem dX4_join_0 : decode cX4_join 0 = .ok (.aload_n 0, 1) := by decide +kernel
theorem dX4_join_1 : decode cX4_join 1 = .ok (.getfield 20, 3) := by decide +kernel
theorem dX4_join_4 : decode cX4_join 4 = .ok (.invokevirtual 60, 3) := by decide +kernel
theorem dX4_join_7 : decode cX4_join 7 = .ok (.iconst 1, 1) := by decide +kernel
theorem dX4_join_8 : decode cX4_join 8 = .ok (.isub, 1) := by decide +kernel
theorem dX4_join_9 : decode cX4_join 9 = .ok (.istore 4, 2) := by decide +kernel
theorem dX4_join_11 : decode cX4_join 11 = .ok (.aload_n 1, 1) := by decide +kernel
theorem dX4_join_12 : decode cX4_join 12 = .ok (.getfield 103, 3) := by decide +kernel
theorem dX4_join_15 : decode cX4_join 15 = .ok (.ifCond .eq 13, 3) := by decide +kernel
theorem dX4_join_18 : decode cX4_join 18 = .ok (.iload_n 3, 1) := by decide +kernel
theorem dX4_join_19 : decode cX4_join 19 = .ok (.iload 4, 2) := by decide +kernel
theorem dX4_join_21 : decode cX4_join 21 = .ok (.if_icmp .ge 7, 3) := by decide +kernel
theorem dX4_join_24 : decode cX4_join 24 = .ok (.iconst 1, 1) := by decide +kernel
theorem dX4_join_25 : decode cX4_join 25 = .ok (.goto 4, 3) := by decide +kernel
theorem dX4_join_28 : decode cX4_join 28 = .ok (.iconst 0, 1) := by decide +kernel
theorem dX4_join_29 : decode cX4_join 29 = .ok (.istore 5, 2) := by decide +kernel
theorem dX4_join_31 : decode cX4_join 31 = .ok (.iload 5, 2) := by decide +kernel
theorem dX4_join_33 : decode cX4_join 33 = .ok (.ifCond .eq 9, 3) := by decide +kernel
theorem dX4_join_36 : decode cX4_join 36 = .ok (.iload_n 3, 1) := by decide +kernel
theorem dX4_join_37 : decode cX4_join 37 = .ok (.iconst 1, 1) := by decide +kernel
theorem dX4_join_38 : decode cX4_join 38 = .ok (.iadd, 1) := by decide +kernel
theorem dX4_join_39 : decode cX4_join 39 = .ok (.goto 7, 3) := by decide +kernel
theorem dX4_join_42 : decode cX4_join 42 = .ok (.iload 4, 2) := by decide +kernel
theorem dX4_join_44 : decode cX4_join 44 = .ok (.iconst 1, 1) := by decide +kernel
theorem dX4_join_45 : decode cX4_join 45 = .ok (.iadd, 1) := by decide +kernel
theorem dX4_join_46 : decode cX4_join 46 = .ok (.istore 6, 2) := by decide +kernel
theorem dX4_join_48 : decode cX4_join 48 = .ok (.aload_n 0, 1) := by decide +kernel
theorem dX4_join_49 : decode cX4_join 49 = .ok (.getfield 20, 3) := by decide +kernel
theorem dX4_join_52 : decode cX4_join 52 = .ok (.iload 5, 2) := by decide +kernel
theorem dX4_join_54 : decode cX4_join 54 = .ok (.ifCond .eq 8, 3) := by decide +kernel
theorem dX4_join_57 : decode cX4_join 57 = .ok (.iload 6, 2) := by decide +kernel
theorem dX4_join_59 : decode cX4_join 59 = .ok (.goto 5, 3) := by decide +kernel
theorem dX4_join_62 : decode cX4_join 62 = .ok (.iload 4, 2) := by decide +kernel
theorem dX4_join_64 : decode cX4_join 64 = .ok (.iconst 1, 1) := by decide +kernel
theorem dX4_join_65 : decode cX4_join 65 = .ok (.invokevirtual 83, 3) := by decide +kernel
theorem dX4_join_68 : decode cX4_join 68 = .ok (.istore 7, 2) := by decide +kernel
theorem dX4_join_70 : decode cX4_join 70 = .ok (.aload_n 0, 1) := by decide +kernel
theorem dX4_join_71 : decode cX4_join 71 = .ok (.getfield 20, 3) := by decide +kernel
theorem dX4_join_74 : decode cX4_join 74 = .ok (.iload 6, 2) := by decide +kernel
theorem dX4_join_76 : decode cX4_join 76 = .ok (.invokevirtual 107, 3) := by decide +kernel
theorem dX4_join_79 : decode cX4_join 79 = .ok (.aload_n 0, 1) := by decide +kernel
theorem dX4_join_80 : decode cX4_join 80 = .ok (.getfield 20, 3) := by decide +kernel
theorem dX4_join_83 : decode cX4_join 83 = .ok (.iload 6, 2) := by decide +kernel
theorem dX4_join_85 : decode cX4_join 85 = .ok (.iconst 0, 1) := by decide +kernel
theorem dX4_join_86 : decode cX4_join 86 = .ok (.aload_n 0, 1) := by decide +kernel
theorem dX4_join_87 : decode cX4_join 87 = .ok (.getfield 49, 3) := by decide +kernel
theorem dX4_join_90 : decode cX4_join 90 = .ok (.invokevirtual 74, 3) := by decide +kernel
theorem dX4_join_93 : decode cX4_join 93 = .ok (.aload_n 0, 1) := by decide +kernel
theorem dX4_join_94 : decode cX4_join 94 = .ok (.getfield 20, 3) := by decide +kernel
theorem dX4_join_97 : decode cX4_join 97 = .ok (.iload 6, 2) := by decide +kernel
theorem dX4_join_99 : decode cX4_join 99 = .ok (.iconst 1, 1) := by decide +kernel
theorem dX4_join_100 : decode cX4_join 100 = .ok (.iload 5, 2) := by decide +kernel
theorem dX4_join_102 : decode cX4_join 102 = .ok (.ifCond .ne 9, 3) := by decide +kernel
theorem dX4_join_105 : decode cX4_join 105 = .ok (.iload 7, 2) := by decide +kernel
theorem dX4_join_107 : decode cX4_join 107 = .ok (.iconst 1, 1) := by decide +kernel
theorem dX4_join_108 : decode cX4_join 108 = .ok (.if_icmp .ge 8, 3) := by decide +kernel
theorem dX4_join_111 : decode cX4_join 111 = .ok (.iload 7, 2) := by decide +kernel
theorem dX4_join_113 : decode cX4_join 113 = .ok (.goto 7, 3) := by decide +kernel
theorem dX4_join_116 : decode cX4_join 116 = .ok (.iload 7, 2) := by decide +kernel
theorem dX4_join_118 : decode cX4_join 118 = .ok (.iconst 1, 1) := by decide +kernel
theorem dX4_join_119 : decode cX4_join 119 = .ok (.isub, 1) := by decide +kernel
theorem dX4_join_120 : decode cX4_join 120 = .ok (.invokevirtual 74, 3) := by decide +kernel
theorem dX4_join_123 : decode cX4_join 123 = .ok (.aload_n 0, 1) := by decide +kernel
theorem dX4_join_124 : decode cX4_join 124 = .ok (.getfield 20, 3) := by decide +kernel
theorem dX4_join_127 : decode cX4_join 127 = .ok (.iload 6, 2) := by decide +kernel
theorem dX4_join_129 : decode cX4_join 129 = .ok (.iconst 2, 1) := by decide +kernel
theorem dX4_join_130 : decode cX4_join 130 = .ok (.aload_n 1, 1) := by decide +kernel
theorem dX4_join_131 : decode cX4_join 131 = .ok (.getfield 86, 3) := by decide +kernel
theorem dX4_join_134 : decode cX4_join 134 = .ok (.iload_n 2, 1) := by decide +kernel
theorem dX4_join_135 : decode cX4_join 135 = .ok (.iconst 1, 1) := by decide +kernel
theorem dX4_join_136 : decode cX4_join 136 = .ok (.invokevirtual 83, 3) := by decide +kernel
theorem dX4_join_139 : decode cX4_join 139 = .ok (.invokevirtual 74, 3) := by decide +kernel
theorem dX4_join_142 : decode cX4_join 142 = .ok (.aload_n 0, 1) := by decide +kernel
theorem dX4_join_143 : decode cX4_join 143 = .ok (.getfield 20, 3) := by decide +kernel
theorem dX4_join_146 : decode cX4_join 146 = .ok (.iload 6, 2) := by decide +kernel
theorem dX4_join_148 : decode cX4_join 148 = .ok (.iconst 3, 1) := by decide +kernel
theorem dX4_join_149 : decode cX4_join 149 = .ok (.aload_n 1, 1) := by decide +kernel
theorem dX4_join_150 : decode cX4_join 150 = .ok (.getfield 86, 3) := by decide +kernel
theorem dX4_join_153 : decode cX4_join 153 = .ok (.iload_n 2, 1) := by decide +kernel
theorem dX4_join_154 : decode cX4_join 154 = .ok (.iconst 2, 1) := by decide +kernel
theorem dX4_join_155 : decode cX4_join 155 = .ok (.invokevirtual 83, 3) := by decide +kernel
theorem dX4_join_158 : decode cX4_join 158 = .ok (.invokevirtual 74, 3) := by decide +kernel
theorem dX4_join_161 : decode cX4_join 161 = .ok (.aload_n 0, 1) := by decide +kernel
theorem dX4_join_162 : decode cX4_join 162 = .ok (.getfield 20, 3) := by decide +kernel
theorem dX4_join_165 : decode cX4_join 165 = .ok (.iload 6, 2) := by decide +kernel
theorem dX4_join_167 : decode cX4_join 167 = .ok (.iconst 4, 1) := by decide +kernel
theorem dX4_join_168 : decode cX4_join 168 = .ok (.aload_n 1, 1) := by decide +kernel
theorem dX4_join_169 : decode cX4_join 169 = .ok (.getfield 86, 3) := by decide +kernel
theorem dX4_join_172 : decode cX4_join 172 = .ok (.iload_n 2, 1) := by decide +kernel
theorem dX4_join_173 : decode cX4_join 173 = .ok (.iconst 3, 1) := by decide +kernel
theorem dX4_join_174 : decode cX4_join 174 = .ok (.invokevirtual 83, 3) := by decide +kernel
theorem dX4_join_177 : decode cX4_join 177 = .ok (.invokevirtual 74, 3) := by decide +kernel
theorem dX4_join_180 : decode cX4_join 180 = .ok (.aload_n 0, 1) := by decide +kernel
theorem dX4_join_181 : decode cX4_join 181 = .ok (.dup, 1) := by decide +kernel
theorem dX4_join_182 : decode cX4_join 182 = .ok (.getfield 49, 3) := by decide +kernel
theorem dX4_join_185 : decode cX4_join 185 = .ok (.iconst 1, 1) := by decide +kernel
theorem dX4_join_186 : decode cX4_join 186 = .ok (.iadd, 1) := by decide +kernel
theorem dX4_join_187 : decode cX4_join 187 = .ok (.putfield 49, 3) := by decide +kernel
theorem dX4_join_190 : decode cX4_join 190 = .ok (.return_, 1) := by decide +kernel
theorem dX5_init_0 : decode cX5_init 0 = .ok (.aload_n 0, 1) := by decide +kernel
theorem dX5_init_1 : decode cX5_init 1 = .ok (.invokespecial 1, 3) := by decide +kernel
theorem dX5_init_4 : decode cX5_init 4 = .ok (.aload_n 0, 1) := by decide +kernel
theorem dX5_init_5 : decode cX5_init 5 = .ok (.iload_n 1, 1) := by decide +kernel
theorem dX5_init_6 : decode cX5_init 6 = .ok (.iconst 1, 1) := by decide +kernel
theorem dX5_init_7 : decode cX5_init 7 = .ok (.if_icmp .ge 7, 3) := by decide +kernel
theorem dX5_init_10 : decode cX5_init 10 = .ok (.iconst 1, 1) := by decide +kernel
theorem dX5_init_11 : decode cX5_init 11 = .ok (.goto 4, 3) := by decide +kernel
theorem dX5_init_14 : decode cX5_init 14 = .ok (.iload_n 1, 1) := by decide +kernel
theorem dX5_init_15 : decode cX5_init 15 = .ok (.putfield 7, 3) := by decide +kernel
theorem dX5_init_18 : decode cX5_init 18 = .ok (.aload_n 0, 1) := by decide +kernel
theorem dX5_init_19 : decode cX5_init 19 = .ok (.iload_n 2, 1) := by decide +kernel
theorem dX5_init_20 : decode cX5_init 20 = .ok (.iconst 1, 1) := by decide +kernel
theorem dX5_init_21 : decode cX5_init 21 = .ok (.if_icmp .ge 7, 3) := by decide +kernel
theorem dX5_init_24 : decode cX5_init 24 = .ok (.iconst 1, 1) := by decide +kernel
theorem dX5_init_25 : decode cX5_init 25 = .ok (.goto 4, 3) := by decide +kernel
theorem dX5_init_28 : decode cX5_init 28 = .ok (.iload_n 2, 1) := by decide +kernel
theorem dX5_init_29 : decode cX5_init 29 = .ok (.putfield 13, 3) := by decide +kernel
theorem dX5_init_32 : decode cX5_init 32 = .ok (.aload_n 0, 1) := by decide +kernel
theorem dX5_init_33 : decode cX5_init 33 = .ok (.aload_n 0, 1) := by decide +kernel
theorem dX5_init_34 : decode cX5_init 34 = .ok (.getfield 7, 3) := by decide +kernel
theorem dX5_init_37 : decode cX5_init 37 = .ok (.aload_n 0, 1) := by decide +kernel
theorem dX5_init_38 : decode cX5_init 38 = .ok (.getfield 13, 3) := by decide +kernel
theorem dX5_init_41 : decode cX5_init 41 = .ok (.imul, 1) := by decide +kernel
theorem dX5_init_42 : decode cX5_init 42 = .ok (.newarray .int, 2) := by decide +kernel
theorem dX5_init_44 : decode cX5_init 44 = .ok (.putfield 16, 3) := by decide +kernel
theorem dX5_init_47 : decode cX5_init 47 = .ok (.aload_n 0, 1) := by decide +kernel
theorem dX5_init_48 : decode cX5_init 48 = .ok (.iconst 0, 1) := by decide +kernel
theorem dX5_init_49 : decode cX5_init 49 = .ok (.putfield 20, 3) := by decide +kernel
theorem dX5_init_52 : decode cX5_init 52 = .ok (.return_, 1) := by decide +kernel
theorem dX5_count_0 : decode cX5_count 0 = .ok (.aload_n 0, 1) := by decide +kernel
theorem dX5_count_1 : decode cX5_count 1 = .ok (.getfield 20, 3) := by decide +kernel
theorem dX5_count_4 : decode cX5_count 4 = .ok (.ireturn, 1) := by decide +kernel
theorem dX5_get_0 : decode cX5_get 0 = .ok (.iload_n 1, 1) := by decide +kernel
theorem dX5_get_1 : decode cX5_get 1 = .ok (.ifCond .lt 27, 3) := by decide +kernel
theorem dX5_get_4 : decode cX5_get 4 = .ok (.iload_n 1, 1) := by decide +kernel
theorem dX5_get_5 : decode cX5_get 5 = .ok (.aload_n 0, 1) := by decide +kernel
theorem dX5_get_6 : decode cX5_get 6 = .ok (.getfield 20, 3) := by decide +kernel
theorem dX5_get_9 : decode cX5_get 9 = .ok (.if_icmp .ge 19, 3) := by decide +kernel
theorem dX5_get_12 : decode cX5_get 12 = .ok (.iload_n 2, 1) := by decide +kernel
theorem dX5_get_13 : decode cX5_get 13 = .ok (.ifCond .lt 15, 3) := by decide +kernel
theorem dX5_get_16 : decode cX5_get 16 = .ok (.iload_n 2, 1) := by decide +kernel
theorem dX5_get_17 : decode cX5_get 17 = .ok (.aload_n 0, 1) := by decide +kernel
theorem dX5_get_18 : decode cX5_get 18 = .ok (.getfield 13, 3) := by decide +kernel
theorem dX5_get_21 : decode cX5_get 21 = .ok (.if_icmp .ge 7, 3) := by decide +kernel
theorem dX5_get_24 : decode cX5_get 24 = .ok (.iconst 1, 1) := by decide +kernel
theorem dX5_get_25 : decode cX5_get 25 = .ok (.goto 4, 3) := by decide +kernel
theorem dX5_get_28 : decode cX5_get 28 = .ok (.iconst 0, 1) := by decide +kernel
theorem dX5_get_29 : decode cX5_get 29 = .ok (.istore_n 3, 1) := by decide +kernel
theorem dX5_get_30 : decode cX5_get 30 = .ok (.iload_n 1, 1) := by decide +kernel
theorem dX5_get_31 : decode cX5_get 31 = .ok (.aload_n 0, 1) := by decide +kernel
theorem dX5_get_32 : decode cX5_get 32 = .ok (.getfield 13, 3) := by decide +kernel
theorem dX5_get_35 : decode cX5_get 35 = .ok (.imul, 1) := by decide +kernel
theorem dX5_get_36 : decode cX5_get 36 = .ok (.iload_n 2, 1) := by decide +kernel
theorem dX5_get_37 : decode cX5_get 37 = .ok (.iadd, 1) := by decide +kernel
theorem dX5_get_38 : decode cX5_get 38 = .ok (.istore 4, 2) := by decide +kernel
theorem dX5_get_40 : decode cX5_get 40 = .ok (.iload_n 3, 1) := by decide +kernel
theorem dX5_get_41 : decode cX5_get 41 = .ok (.ifCond .eq 28, 3) := by decide +kernel
theorem dX5_get_44 : decode cX5_get 44 = .ok (.iload 4, 2) := by decide +kernel
theorem dX5_get_46 : decode cX5_get 46 = .ok (.ifCond .lt 23, 3) := by decide +kernel
theorem dX5_get_49 : decode cX5_get 49 = .ok (.iload 4, 2) := by decide +kernel
theorem dX5_get_51 : decode cX5_get 51 = .ok (.aload_n 0, 1) := by decide +kernel
theorem dX5_get_52 : decode cX5_get 52 = .ok (.getfield 16, 3) := by decide +kernel
theorem dX5_get_55 : decode cX5_get 55 = .ok (.arraylength, 1) := by decide +kernel
theorem dX5_get_56 : decode cX5_get 56 = .ok (.if_icmp .ge 13, 3) := by decide +kernel
theorem dX5_get_59 : decode cX5_get 59 = .ok (.aload_n 0, 1) := by decide +kernel
theorem dX5_get_60 : decode cX5_get 60 = .ok (.getfield 16, 3) := by decide +kernel
theorem dX5_get_63 : decode cX5_get 63 = .ok (.iload 4, 2) := by decide +kernel
theorem dX5_get_65 : decode cX5_get 65 = .ok (.iaload, 1) := by decide +kernel
theorem dX5_get_66 : decode cX5_get 66 = .ok (.goto 4, 3) := by decide +kernel
theorem dX5_get_69 : decode cX5_get 69 = .ok (.iconst 0, 1) := by decide +kernel
theorem dX5_get_70 : decode cX5_get 70 = .ok (.ireturn, 1) := by decide +kernel
theorem dX5_put_0 : decode cX5_put 0 = .ok (.iload_n 1, 1) := by decide +kernel
theorem dX5_put_1 : decode cX5_put 1 = .ok (.ifCond .lt 27, 3) := by decide +kernel
theorem dX5_put_4 : decode cX5_put 4 = .ok (.iload_n 1, 1) := by decide +kernel
theorem dX5_put_5 : decode cX5_put 5 = .ok (.aload_n 0, 1) := by decide +kernel
theorem dX5_put_6 : decode cX5_put 6 = .ok (.getfield 20, 3) := by decide +kernel
theorem dX5_put_9 : decode cX5_put 9 = .ok (.if_icmp .ge 19, 3) := by decide +kernel
theorem dX5_put_12 : decode cX5_put 12 = .ok (.iload_n 2, 1) := by decide +kernel
theorem dX5_put_13 : decode cX5_put 13 = .ok (.ifCond .lt 15, 3) := by decide +kernel
theorem dX5_put_16 : decode cX5_put 16 = .ok (.iload_n 2, 1) := by decide +kernel
theorem dX5_put_17 : decode cX5_put 17 = .ok (.aload_n 0, 1) := by decide +kernel
theorem dX5_put_18 : decode cX5_put 18 = .ok (.getfield 13, 3) := by decide +kernel
theorem dX5_put_21 : decode cX5_put 21 = .ok (.if_icmp .ge 7, 3) := by decide +kernel
theorem dX5_put_24 : decode cX5_put 24 = .ok (.iconst 1, 1) := by decide +kernel
theorem dX5_put_25 : decode cX5_put 25 = .ok (.goto 4, 3) := by decide +kernel
theorem dX5_put_28 : decode cX5_put 28 = .ok (.iconst 0, 1) := by decide +kernel
theorem dX5_put_29 : decode cX5_put 29 = .ok (.istore 4, 2) := by decide +kernel
theorem dX5_put_31 : decode cX5_put 31 = .ok (.iload_n 1, 1) := by decide +kernel
theorem dX5_put_32 : decode cX5_put 32 = .ok (.aload_n 0, 1) := by decide +kernel
theorem dX5_put_33 : decode cX5_put 33 = .ok (.getfield 13, 3) := by decide +kernel
theorem dX5_put_36 : decode cX5_put 36 = .ok (.imul, 1) := by decide +kernel
theorem dX5_put_37 : decode cX5_put 37 = .ok (.iload_n 2, 1) := by decide +kernel
theorem dX5_put_38 : decode cX5_put 38 = .ok (.iadd, 1) := by decide +kernel
theorem dX5_put_39 : decode cX5_put 39 = .ok (.istore 5, 2) := by decide +kernel
theorem dX5_put_41 : decode cX5_put 41 = .ok (.iload 4, 2) := by decide +kernel
theorem dX5_put_43 : decode cX5_put 43 = .ok (.ifCond .eq 26, 3) := by decide +kernel
theorem dX5_put_46 : decode cX5_put 46 = .ok (.iload 5, 2) := by decide +kernel
theorem dX5_put_48 : decode cX5_put 48 = .ok (.ifCond .lt 21, 3) := by decide +kernel
theorem dX5_put_51 : decode cX5_put 51 = .ok (.iload 5, 2) := by decide +kernel
theorem dX5_put_53 : decode cX5_put 53 = .ok (.aload_n 0, 1) := by decide +kernel
theorem dX5_put_54 : decode cX5_put 54 = .ok (.getfield 16, 3) := by decide +kernel
theorem dX5_put_57 : decode cX5_put 57 = .ok (.arraylength, 1) := by decide +kernel
theorem dX5_put_58 : decode cX5_put 58 = .ok (.if_icmp .ge 11, 3) := by decide +kernel
theorem dX5_put_61 : decode cX5_put 61 = .ok (.aload_n 0, 1) := by decide +kernel
theorem dX5_put_62 : decode cX5_put 62 = .ok (.getfield 16, 3) := by decide +kernel
theorem dX5_put_65 : decode cX5_put 65 = .ok (.iload 5, 2) := by decide +kernel
theorem dX5_put_67 : decode cX5_put 67 = .ok (.iload_n 3, 1) := by decide +kernel
theorem dX5_put_68 : decode cX5_put 68 = .ok (.iastore, 1) := by decide +kernel
theorem dX5_put_69 : decode cX5_put 69 = .ok (.return_, 1) := by decide +kernel
theorem dX5_push_0 : decode cX5_push 0 = .ok (.aload_n 0, 1) := by decide +kernel
theorem dX5_push_1 : decode cX5_push 1 = .ok (.aload_n 0, 1) := by decide +kernel
theorem dX5_push_2 : decode cX5_push 2 = .ok (.getfield 20, 3) := by decide +kernel
theorem dX5_push_5 : decode cX5_push 5 = .ok (.invokevirtual 23, 3) := by decide +kernel
theorem dX5_push_8 : decode cX5_push 8 = .ok (.aload_n 0, 1) := by decide +kernel
theorem dX5_push_9 : decode cX5_push 9 = .ok (.aload_n 0, 1) := by decide +kernel
theorem dX5_push_10 : decode cX5_push 10 = .ok (.getfield 20, 3) := by decide +kernel
theorem dX5_push_13 : decode cX5_push 13 = .ok (.iconst 1, 1) := by decide +kernel
theorem dX5_push_14 : decode cX5_push 14 = .ok (.isub, 1) := by decide +kernel
theorem dX5_push_15 : decode cX5_push 15 = .ok (.iconst 0, 1) := by decide +kernel
theorem dX5_push_16 : decode cX5_push 16 = .ok (.iload_n 1, 1) := by decide +kernel
theorem dX5_push_17 : decode cX5_push 17 = .ok (.invokevirtual 27, 3) := by decide +kernel
theorem dX5_push_20 : decode cX5_push 20 = .ok (.return_, 1) := by decide +kernel
theorem dX5_insert_0 : decode cX5_insert 0 = .ok (.iload_n 1, 1) := by decide +kernel
theorem dX5_insert_1 : decode cX5_insert 1 = .ok (.ifCond .lt 22, 3) := by decide +kernel
theorem dX5_insert_4 : decode cX5_insert 4 = .ok (.iload_n 1, 1) := by decide +kernel
theorem dX5_insert_5 : decode cX5_insert 5 = .ok (.aload_n 0, 1) := by decide +kernel
theorem dX5_insert_6 : decode cX5_insert 6 = .ok (.getfield 20, 3) := by decide +kernel
theorem dX5_insert_9 : decode cX5_insert 9 = .ok (.if_icmp .gt 14, 3) := by decide +kernel
theorem dX5_insert_12 : decode cX5_insert 12 = .ok (.aload_n 0, 1) := by decide +kernel
theorem dX5_insert_13 : decode cX5_insert 13 = .ok (.getfield 20, 3) := by decide +kernel
theorem dX5_insert_16 : decode cX5_insert 16 = .ok (.aload_n 0, 1) := by decide +kernel
theorem dX5_insert_17 : decode cX5_insert 17 = .ok (.getfield 7, 3) := by decide +kernel
theorem dX5_insert_20 : decode cX5_insert 20 = .ok (.if_icmp .lt 4, 3) := by decide +kernel
theorem dX5_insert_23 : decode cX5_insert 23 = .ok (.return_, 1) := by decide +kernel
theorem dX5_insert_24 : decode cX5_insert 24 = .ok (.aload_n 0, 1) := by decide +kernel
theorem dX5_insert_25 : decode cX5_insert 25 = .ok (.getfield 20, 3) := by decide +kernel
theorem dX5_insert_28 : decode cX5_insert 28 = .ok (.iconst 1, 1) := by decide +kernel
theorem dX5_insert_29 : decode cX5_insert 29 = .ok (.iadd, 1) := by decide +kernel
theorem dX5_insert_30 : decode cX5_insert 30 = .ok (.aload_n 0, 1) := by decide +kernel
theorem dX5_insert_31 : decode cX5_insert 31 = .ok (.getfield 13, 3) := by decide +kernel
theorem dX5_insert_34 : decode cX5_insert 34 = .ok (.imul, 1) := by decide +kernel
theorem dX5_insert_35 : decode cX5_insert 35 = .ok (.iconst 1, 1) := by decide +kernel
theorem dX5_insert_36 : decode cX5_insert 36 = .ok (.isub, 1) := by decide +kernel
theorem dX5_insert_37 : decode cX5_insert 37 = .ok (.istore_n 2, 1) := by decide +kernel
theorem dX5_insert_38 : decode cX5_insert 38 = .ok (.iload_n 2, 1) := by decide +kernel
theorem dX5_insert_39 : decode cX5_insert 39 = .ok (.iload_n 1, 1) := by decide +kernel
theorem dX5_insert_40 : decode cX5_insert 40 = .ok (.iconst 1, 1) := by decide +kernel
theorem dX5_insert_41 : decode cX5_insert 41 = .ok (.iadd, 1) := by decide +kernel
theorem dX5_insert_42 : decode cX5_insert 42 = .ok (.aload_n 0, 1) := by decide +kernel
theorem dX5_insert_43 : decode cX5_insert 43 = .ok (.getfield 13, 3) := by decide +kernel
theorem dX5_insert_46 : decode cX5_insert 46 = .ok (.imul, 1) := by decide +kernel
theorem dX5_insert_47 : decode cX5_insert 47 = .ok (.if_icmp .lt 20, 3) := by decide +kernel
theorem dX5_insert_50 : decode cX5_insert 50 = .ok (.aload_n 0, 1) := by decide +kernel
theorem dX5_insert_51 : decode cX5_insert 51 = .ok (.iload_n 2, 1) := by decide +kernel
theorem dX5_insert_52 : decode cX5_insert 52 = .ok (.iload_n 2, 1) := by decide +kernel
theorem dX5_insert_53 : decode cX5_insert 53 = .ok (.aload_n 0, 1) := by decide +kernel
theorem dX5_insert_54 : decode cX5_insert 54 = .ok (.getfield 13, 3) := by decide +kernel
theorem dX5_insert_57 : decode cX5_insert 57 = .ok (.isub, 1) := by decide +kernel
theorem dX5_insert_58 : decode cX5_insert 58 = .ok (.invokevirtual 31, 3) := by decide +kernel
theorem dX5_insert_61 : decode cX5_insert 61 = .ok (.iinc 2 (-1), 3) := by decide +kernel
theorem dX5_insert_64 : decode cX5_insert 64 = .ok (.goto (-26), 3) := by decide +kernel
theorem dX5_insert_67 : decode cX5_insert 67 = .ok (.aload_n 0, 1) := by decide +kernel
theorem dX5_insert_68 : decode cX5_insert 68 = .ok (.dup, 1) := by decide +kernel
theorem dX5_insert_69 : decode cX5_insert 69 = .ok (.getfield 20, 3) := by decide +kernel
theorem dX5_insert_72 : decode cX5_insert 72 = .ok (.iconst 1, 1) := by decide +kernel
theorem dX5_insert_73 : decode cX5_insert 73 = .ok (.iadd, 1) := by decide +kernel
theorem dX5_insert_74 : decode cX5_insert 74 = .ok (.putfield 20, 3) := by decide +kernel
theorem dX5_insert_77 : decode cX5_insert 77 = .ok (.iconst 0, 1) := by decide +kernel
theorem dX5_insert_78 : decode cX5_insert 78 = .ok (.istore_n 2, 1) := by decide +kernel
theorem dX5_insert_79 : decode cX5_insert 79 = .ok (.iload_n 2, 1) := by decide +kernel
theorem dX5_insert_80 : decode cX5_insert 80 = .ok (.aload_n 0, 1) := by decide +kernel
theorem dX5_insert_81 : decode cX5_insert 81 = .ok (.getfield 13, 3) := by decide +kernel
theorem dX5_insert_84 : decode cX5_insert 84 = .ok (.if_icmp .ge 16, 3) := by decide +kernel
theorem dX5_insert_87 : decode cX5_insert 87 = .ok (.aload_n 0, 1) := by decide +kernel
theorem dX5_insert_88 : decode cX5_insert 88 = .ok (.iload_n 1, 1) := by decide +kernel
theorem dX5_insert_89 : decode cX5_insert 89 = .ok (.iload_n 2, 1) := by decide +kernel
theorem dX5_insert_90 : decode cX5_insert 90 = .ok (.iconst 0, 1) := by decide +kernel
theorem dX5_insert_91 : decode cX5_insert 91 = .ok (.invokevirtual 27, 3) := by decide +kernel
theorem dX5_insert_94 : decode cX5_insert 94 = .ok (.iinc 2 1, 3) := by decide +kernel
theorem dX5_insert_97 : decode cX5_insert 97 = .ok (.goto (-18), 3) := by decide +kernel
theorem dX5_insert_100 : decode cX5_insert 100 = .ok (.return_, 1) := by decide +kernel
theorem dX5_drop_0 : decode cX5_drop 0 = .ok (.iload_n 1, 1) := by decide +kernel
theorem dX5_drop_1 : decode cX5_drop 1 = .ok (.ifCond .lt 11, 3) := by decide +kernel
theorem dX5_drop_4 : decode cX5_drop 4 = .ok (.iload_n 1, 1) := by decide +kernel
theorem dX5_drop_5 : decode cX5_drop 5 = .ok (.aload_n 0, 1) := by decide +kernel
theorem dX5_drop_6 : decode cX5_drop 6 = .ok (.getfield 20, 3) := by decide +kernel
theorem dX5_drop_9 : decode cX5_drop 9 = .ok (.if_icmp .lt 4, 3) := by decide +kernel
theorem dX5_drop_12 : decode cX5_drop 12 = .ok (.return_, 1) := by decide +kernel
theorem dX5_drop_13 : decode cX5_drop 13 = .ok (.aload_n 0, 1) := by decide +kernel
theorem dX5_drop_14 : decode cX5_drop 14 = .ok (.dup, 1) := by decide +kernel
theorem dX5_drop_15 : decode cX5_drop 15 = .ok (.getfield 20, 3) := by decide +kernel
theorem dX5_drop_18 : decode cX5_drop 18 = .ok (.iconst 1, 1) := by decide +kernel
theorem dX5_drop_19 : decode cX5_drop 19 = .ok (.isub, 1) := by decide +kernel
theorem dX5_drop_20 : decode cX5_drop 20 = .ok (.putfield 20, 3) := by decide +kernel
theorem dX5_drop_23 : decode cX5_drop 23 = .ok (.iload_n 1, 1) := by decide +kernel
theorem dX5_drop_24 : decode cX5_drop 24 = .ok (.aload_n 0, 1) := by decide +kernel
theorem dX5_drop_25 : decode cX5_drop 25 = .ok (.getfield 13, 3) := by decide +kernel
theorem dX5_drop_28 : decode cX5_drop 28 = .ok (.imul, 1) := by decide +kernel
theorem dX5_drop_29 : decode cX5_drop 29 = .ok (.istore_n 2, 1) := by decide +kernel
theorem dX5_drop_30 : decode cX5_drop 30 = .ok (.iload_n 2, 1) := by decide +kernel
theorem dX5_drop_31 : decode cX5_drop 31 = .ok (.aload_n 0, 1) := by decide +kernel
theorem dX5_drop_32 : decode cX5_drop 32 = .ok (.getfield 20, 3) := by decide +kernel
theorem dX5_drop_35 : decode cX5_drop 35 = .ok (.aload_n 0, 1) := by decide +kernel
theorem dX5_drop_36 : decode cX5_drop 36 = .ok (.getfield 13, 3) := by decide +kernel
theorem dX5_drop_39 : decode cX5_drop 39 = .ok (.imul, 1) := by decide +kernel
theorem dX5_drop_40 : decode cX5_drop 40 = .ok (.if_icmp .ge 20, 3) := by decide +kernel
theorem dX5_drop_43 : decode cX5_drop 43 = .ok (.aload_n 0, 1) := by decide +kernel
theorem dX5_drop_44 : decode cX5_drop 44 = .ok (.iload_n 2, 1) := by decide +kernel
theorem dX5_drop_45 : decode cX5_drop 45 = .ok (.iload_n 2, 1) := by decide +kernel
theorem dX5_drop_46 : decode cX5_drop 46 = .ok (.aload_n 0, 1) := by decide +kernel
theorem dX5_drop_47 : decode cX5_drop 47 = .ok (.getfield 13, 3) := by decide +kernel
theorem dX5_drop_50 : decode cX5_drop 50 = .ok (.iadd, 1) := by decide +kernel
theorem dX5_drop_51 : decode cX5_drop 51 = .ok (.invokevirtual 31, 3) := by decide +kernel
theorem dX5_drop_54 : decode cX5_drop 54 = .ok (.iinc 2 1, 3) := by decide +kernel
theorem dX5_drop_57 : decode cX5_drop 57 = .ok (.goto (-27), 3) := by decide +kernel
theorem dX5_drop_60 : decode cX5_drop 60 = .ok (.return_, 1) := by decide +kernel
theorem dX5_cut_0 : decode cX5_cut 0 = .ok (.aload_n 0, 1) := by decide +kernel
theorem dX5_cut_1 : decode cX5_cut 1 = .ok (.iload_n 1, 1) := by decide +kernel
theorem dX5_cut_2 : decode cX5_cut 2 = .ok (.ifCond .ge 7, 3) := by decide +kernel
theorem dX5_cut_5 : decode cX5_cut 5 = .ok (.iconst 0, 1) := by decide +kernel
theorem dX5_cut_6 : decode cX5_cut 6 = .ok (.goto 11, 3) := by decide +kernel
theorem dX5_cut_9 : decode cX5_cut 9 = .ok (.iload_n 1, 1) := by decide +kernel
theorem dX5_cut_10 : decode cX5_cut 10 = .ok (.aload_n 0, 1) := by decide +kernel
theorem dX5_cut_11 : decode cX5_cut 11 = .ok (.getfield 20, 3) := by decide +kernel
theorem dX5_cut_14 : decode cX5_cut 14 = .ok (.invokestatic 35, 3) := by decide +kernel
theorem dX5_cut_17 : decode cX5_cut 17 = .ok (.putfield 20, 3) := by decide +kernel
theorem dX5_cut_20 : decode cX5_cut 20 = .ok (.return_, 1) := by decide +kernel
theorem dX5_blank_0 : decode cX5_blank 0 = .ok (.aload_n 0, 1) := by decide +kernel
theorem dX5_blank_1 : decode cX5_blank 1 = .ok (.iload_n 1, 1) := by decide +kernel
theorem dX5_blank_2 : decode cX5_blank 2 = .ok (.ifCond .ge 7, 3) := by decide +kernel
theorem dX5_blank_5 : decode cX5_blank 5 = .ok (.iconst 0, 1) := by decide +kernel
theorem dX5_blank_6 : decode cX5_blank 6 = .ok (.goto 11, 3) := by decide +kernel
theorem dX5_blank_9 : decode cX5_blank 9 = .ok (.iload_n 1, 1) := by decide +kernel
theorem dX5_blank_10 : decode cX5_blank 10 = .ok (.aload_n 0, 1) := by decide +kernel
theorem dX5_blank_11 : decode cX5_blank 11 = .ok (.getfield 7, 3) := by decide +kernel
theorem dX5_blank_14 : decode cX5_blank 14 = .ok (.invokestatic 35, 3) := by decide +kernel
theorem dX5_blank_17 : decode cX5_blank 17 = .ok (.putfield 20, 3) := by decide +kernel
theorem dX5_blank_20 : decode cX5_blank 20 = .ok (.iconst 0, 1) := by decide +kernel
theorem dX5_blank_21 : decode cX5_blank 21 = .ok (.istore_n 3, 1) := by decide +kernel
theorem dX5_blank_22 : decode cX5_blank 22 = .ok (.iload_n 3, 1) := by decide +kernel
theorem dX5_blank_23 : decode cX5_blank 23 = .ok (.aload_n 0, 1) := by decide +kernel
theorem dX5_blank_24 : decode cX5_blank 24 = .ok (.getfield 20, 3) := by decide +kernel
theorem dX5_blank_27 : decode cX5_blank 27 = .ok (.aload_n 0, 1) := by decide +kernel
theorem dX5_blank_28 : decode cX5_blank 28 = .ok (.getfield 13, 3) := by decide +kernel
theorem dX5_blank_31 : decode cX5_blank 31 = .ok (.imul, 1) := by decide +kernel
theorem dX5_blank_32 : decode cX5_blank 32 = .ok (.if_icmp .ge 25, 3) := by decide +kernel
theorem dX5_blank_35 : decode cX5_blank 35 = .ok (.iload_n 3, 1) := by decide +kernel
theorem dX5_blank_36 : decode cX5_blank 36 = .ok (.aload_n 0, 1) := by decide +kernel
theorem dX5_blank_37 : decode cX5_blank 37 = .ok (.getfield 16, 3) := by decide +kernel
theorem dX5_blank_40 : decode cX5_blank 40 = .ok (.arraylength, 1) := by decide +kernel
theorem dX5_blank_41 : decode cX5_blank 41 = .ok (.if_icmp .ge 16, 3) := by decide +kernel
theorem dX5_blank_44 : decode cX5_blank 44 = .ok (.aload_n 0, 1) := by decide +kernel
theorem dX5_blank_45 : decode cX5_blank 45 = .ok (.getfield 16, 3) := by decide +kernel
theorem dX5_blank_48 : decode cX5_blank 48 = .ok (.iload_n 3, 1) := by decide +kernel
theorem dX5_blank_49 : decode cX5_blank 49 = .ok (.iload_n 2, 1) := by decide +kernel
theorem dX5_blank_50 : decode cX5_blank 50 = .ok (.iastore, 1) := by decide +kernel
theorem dX5_blank_51 : decode cX5_blank 51 = .ok (.iinc 3 1, 3) := by decide +kernel
theorem dX5_blank_54 : decode cX5_blank 54 = .ok (.goto (-32), 3) := by decide +kernel
theorem dX5_blank_57 : decode cX5_blank 57 = .ok (.return_, 1) := by decide +kernel
theorem dX5_copy_0 : decode cX5_copy 0 = .ok (.aload_n 1, 1) := by decide +kernel
theorem dX5_copy_1 : decode cX5_copy 1 = .ok (.ifnull 14, 3) := by decide +kernel
theorem dX5_copy_4 : decode cX5_copy 4 = .ok (.aload_n 1, 1) := by decide +kernel
theorem dX5_copy_5 : decode cX5_copy 5 = .ok (.getfield 13, 3) := by decide +kernel
theorem dX5_copy_8 : decode cX5_copy 8 = .ok (.aload_n 0, 1) := by decide +kernel
theorem dX5_copy_9 : decode cX5_copy 9 = .ok (.getfield 13, 3) := by decide +kernel
theorem dX5_copy_12 : decode cX5_copy 12 = .ok (.if_icmp .eq 4, 3) := by decide +kernel
theorem dX5_copy_15 : decode cX5_copy 15 = .ok (.return_, 1) := by decide +kernel
theorem dX5_copy_16 : decode cX5_copy 16 = .ok (.aload_n 0, 1) := by decide +kernel
theorem dX5_copy_17 : decode cX5_copy 17 = .ok (.aload_n 1, 1) := by decide +kernel
theorem dX5_copy_18 : decode cX5_copy 18 = .ok (.getfield 20, 3) := by decide +kernel
theorem dX5_copy_21 : decode cX5_copy 21 = .ok (.aload_n 0, 1) := by decide +kernel
theorem dX5_copy_22 : decode cX5_copy 22 = .ok (.getfield 7, 3) := by decide +kernel
theorem dX5_copy_25 : decode cX5_copy 25 = .ok (.invokestatic 35, 3) := by decide +kernel
theorem dX5_copy_28 : decode cX5_copy 28 = .ok (.putfield 20, 3) := by decide +kernel
theorem dX5_copy_31 : decode cX5_copy 31 = .ok (.aload_n 0, 1) := by decide +kernel
theorem dX5_copy_32 : decode cX5_copy 32 = .ok (.getfield 20, 3) := by decide +kernel
theorem dX5_copy_35 : decode cX5_copy 35 = .ok (.aload_n 0, 1) := by decide +kernel
theorem dX5_copy_36 : decode cX5_copy 36 = .ok (.getfield 13, 3) := by decide +kernel
theorem dX5_copy_39 : decode cX5_copy 39 = .ok (.imul, 1) := by decide +kernel
theorem dX5_copy_40 : decode cX5_copy 40 = .ok (.aload_n 0, 1) := by decide +kernel
theorem dX5_copy_41 : decode cX5_copy 41 = .ok (.getfield 16, 3) := by decide +kernel
theorem dX5_copy_44 : decode cX5_copy 44 = .ok (.arraylength, 1) := by decide +kernel
theorem dX5_copy_45 : decode cX5_copy 45 = .ok (.aload_n 1, 1) := by decide +kernel
theorem dX5_copy_46 : decode cX5_copy 46 = .ok (.getfield 16, 3) := by decide +kernel
theorem dX5_copy_49 : decode cX5_copy 49 = .ok (.arraylength, 1) := by decide +kernel
theorem dX5_copy_50 : decode cX5_copy 50 = .ok (.invokestatic 35, 3) := by decide +kernel
theorem dX5_copy_53 : decode cX5_copy 53 = .ok (.invokestatic 35, 3) := by decide +kernel
theorem dX5_copy_56 : decode cX5_copy 56 = .ok (.istore_n 2, 1) := by decide +kernel
theorem dX5_copy_57 : decode cX5_copy 57 = .ok (.aload_n 1, 1) := by decide +kernel
theorem dX5_copy_58 : decode cX5_copy 58 = .ok (.getfield 16, 3) := by decide +kernel
theorem dX5_copy_61 : decode cX5_copy 61 = .ok (.iconst 0, 1) := by decide +kernel
theorem dX5_copy_62 : decode cX5_copy 62 = .ok (.aload_n 0, 1) := by decide +kernel
theorem dX5_copy_63 : decode cX5_copy 63 = .ok (.getfield 16, 3) := by decide +kernel
theorem dX5_copy_66 : decode cX5_copy 66 = .ok (.iconst 0, 1) := by decide +kernel
theorem dX5_copy_67 : decode cX5_copy 67 = .ok (.iload_n 2, 1) := by decide +kernel
theorem dX5_copy_68 : decode cX5_copy 68 = .ok (.invokestatic 41, 3) := by decide +kernel
theorem dX5_copy_71 : decode cX5_copy 71 = .ok (.return_, 1) := by decide +kernel
theorem dX5_shift_0 : decode cX5_shift 0 = .ok (.iload_n 1, 1) := by decide +kernel
theorem dX5_shift_1 : decode cX5_shift 1 = .ok (.ifCond .lt 37, 3) := by decide +kernel
theorem dX5_shift_4 : decode cX5_shift 4 = .ok (.iload_n 1, 1) := by decide +kernel
theorem dX5_shift_5 : decode cX5_shift 5 = .ok (.aload_n 0, 1) := by decide +kernel
theorem dX5_shift_6 : decode cX5_shift 6 = .ok (.getfield 16, 3) := by decide +kernel
theorem dX5_shift_9 : decode cX5_shift 9 = .ok (.arraylength, 1) := by decide +kernel
theorem dX5_shift_10 : decode cX5_shift 10 = .ok (.if_icmp .ge 28, 3) := by decide +kernel
theorem dX5_shift_13 : decode cX5_shift 13 = .ok (.iload_n 2, 1) := by decide +kernel
theorem dX5_shift_14 : decode cX5_shift 14 = .ok (.ifCond .lt 24, 3) := by decide +kernel
theorem dX5_shift_17 : decode cX5_shift 17 = .ok (.iload_n 2, 1) := by decide +kernel
theorem dX5_shift_18 : decode cX5_shift 18 = .ok (.aload_n 0, 1) := by decide +kernel
theorem dX5_shift_19 : decode cX5_shift 19 = .ok (.getfield 16, 3) := by decide +kernel
theorem dX5_shift_22 : decode cX5_shift 22 = .ok (.arraylength, 1) := by decide +kernel
theorem dX5_shift_23 : decode cX5_shift 23 = .ok (.if_icmp .ge 15, 3) := by decide +kernel
theorem dX5_shift_26 : decode cX5_shift 26 = .ok (.aload_n 0, 1) := by decide +kernel
theorem dX5_shift_27 : decode cX5_shift 27 = .ok (.getfield 16, 3) := by decide +kernel
theorem dX5_shift_30 : decode cX5_shift 30 = .ok (.iload_n 1, 1) := by decide +kernel
theorem dX5_shift_31 : decode cX5_shift 31 = .ok (.aload_n 0, 1) := by decide +kernel
theorem dX5_shift_32 : decode cX5_shift 32 = .ok (.getfield 16, 3) := by decide +kernel
theorem dX5_shift_35 : decode cX5_shift 35 = .ok (.iload_n 2, 1) := by decide +kernel
theorem dX5_shift_36 : decode cX5_shift 36 = .ok (.iaload, 1) := by decide +kernel
theorem dX5_shift_37 : decode cX5_shift 37 = .ok (.iastore, 1) := by decide +kernel
theorem dX5_shift_38 : decode cX5_shift 38 = .ok (.return_, 1) := by decide +kernel
theorem dX6_init_0 : decode cX6_init 0 = .ok (.aload_n 0, 1) := by decide +kernel
theorem dX6_init_1 : decode cX6_init 1 = .ok (.invokespecial 1, 3) := by decide +kernel
theorem dX6_init_4 : decode cX6_init 4 = .ok (.aload_n 0, 1) := by decide +kernel
theorem dX6_init_5 : decode cX6_init 5 = .ok (.iload_n 1, 1) := by decide +kernel
theorem dX6_init_6 : decode cX6_init 6 = .ok (.iconst 1, 1) := by decide +kernel
theorem dX6_init_7 : decode cX6_init 7 = .ok (.if_icmp .ge 7, 3) := by decide +kernel
theorem dX6_init_10 : decode cX6_init 10 = .ok (.iconst 1, 1) := by decide +kernel
theorem dX6_init_11 : decode cX6_init 11 = .ok (.goto 4, 3) := by decide +kernel
theorem dX6_init_14 : decode cX6_init 14 = .ok (.iload_n 1, 1) := by decide +kernel
theorem dX6_init_15 : decode cX6_init 15 = .ok (.anewarray 7, 3) := by decide +kernel
theorem dX6_init_18 : decode cX6_init 18 = .ok (.putfield 9, 3) := by decide +kernel
theorem dX6_init_21 : decode cX6_init 21 = .ok (.iconst 0, 1) := by decide +kernel
theorem dX6_init_22 : decode cX6_init 22 = .ok (.istore_n 2, 1) := by decide +kernel
theorem dX6_init_23 : decode cX6_init 23 = .ok (.iload_n 2, 1) := by decide +kernel
theorem dX6_init_24 : decode cX6_init 24 = .ok (.aload_n 0, 1) := by decide +kernel
theorem dX6_init_25 : decode cX6_init 25 = .ok (.getfield 9, 3) := by decide +kernel
theorem dX6_init_28 : decode cX6_init 28 = .ok (.arraylength, 1) := by decide +kernel
theorem dX6_init_29 : decode cX6_init 29 = .ok (.if_icmp .ge 22, 3) := by decide +kernel
theorem dX6_init_32 : decode cX6_init 32 = .ok (.aload_n 0, 1) := by decide +kernel
theorem dX6_init_33 : decode cX6_init 33 = .ok (.getfield 9, 3) := by decide +kernel
theorem dX6_init_36 : decode cX6_init 36 = .ok (.iload_n 2, 1) := by decide +kernel
theorem dX6_init_37 : decode cX6_init 37 = .ok (.new 7, 3) := by decide +kernel
theorem dX6_init_40 : decode cX6_init 40 = .ok (.dup, 1) := by decide +kernel
theorem dX6_init_41 : decode cX6_init 41 = .ok (.invokespecial 15, 3) := by decide +kernel
theorem dX6_init_44 : decode cX6_init 44 = .ok (.aastore, 1) := by decide +kernel
theorem dX6_init_45 : decode cX6_init 45 = .ok (.iinc 2 1, 3) := by decide +kernel
theorem dX6_init_48 : decode cX6_init 48 = .ok (.goto (-25), 3) := by decide +kernel
theorem dX6_init_51 : decode cX6_init 51 = .ok (.aload_n 0, 1) := by decide +kernel
theorem dX6_init_52 : decode cX6_init 52 = .ok (.iconst 0, 1) := by decide +kernel
theorem dX6_init_53 : decode cX6_init 53 = .ok (.putfield 16, 3) := by decide +kernel
theorem dX6_init_56 : decode cX6_init 56 = .ok (.aload_n 0, 1) := by decide +kernel
theorem dX6_init_57 : decode cX6_init 57 = .ok (.iconst 0, 1) := by decide +kernel
theorem dX6_init_58 : decode cX6_init 58 = .ok (.putfield 20, 3) := by decide +kernel
theorem dX6_init_61 : decode cX6_init 61 = .ok (.return_, 1) := by decide +kernel
theorem dX6_count_0 : decode cX6_count 0 = .ok (.aload_n 0, 1) := by decide +kernel
theorem dX6_count_1 : decode cX6_count 1 = .ok (.getfield 20, 3) := by decide +kernel
theorem dX6_count_4 : decode cX6_count 4 = .ok (.ireturn, 1) := by decide +kernel
theorem dX6_isFull_0 : decode cX6_isFull 0 = .ok (.aload_n 0, 1) := by decide +kernel
theorem dX6_isFull_1 : decode cX6_isFull 1 = .ok (.getfield 20, 3) := by decide +kernel
theorem dX6_isFull_4 : decode cX6_isFull 4 = .ok (.aload_n 0, 1) := by decide +kernel
theorem dX6_isFull_5 : decode cX6_isFull 5 = .ok (.getfield 9, 3) := by decide +kernel
theorem dX6_isFull_8 : decode cX6_isFull 8 = .ok (.arraylength, 1) := by decide +kernel
theorem dX6_isFull_9 : decode cX6_isFull 9 = .ok (.if_icmp .lt 7, 3) := by decide +kernel
theorem dX6_isFull_12 : decode cX6_isFull 12 = .ok (.iconst 1, 1) := by decide +kernel
theorem dX6_isFull_13 : decode cX6_isFull 13 = .ok (.goto 4, 3) := by decide +kernel
theorem dX6_isFull_16 : decode cX6_isFull 16 = .ok (.iconst 0, 1) := by decide +kernel
theorem dX6_isFull_17 : decode cX6_isFull 17 = .ok (.ireturn, 1) := by decide +kernel
theorem dX6_clear_0 : decode cX6_clear 0 = .ok (.aload_n 0, 1) := by decide +kernel
theorem dX6_clear_1 : decode cX6_clear 1 = .ok (.iconst 0, 1) := by decide +kernel
theorem dX6_clear_2 : decode cX6_clear 2 = .ok (.putfield 20, 3) := by decide +kernel
theorem dX6_clear_5 : decode cX6_clear 5 = .ok (.return_, 1) := by decide +kernel
theorem dX6_push_0 : decode cX6_push 0 = .ok (.aload_n 0, 1) := by decide +kernel
theorem dX6_push_1 : decode cX6_push 1 = .ok (.invokevirtual 23, 3) := by decide +kernel
theorem dX6_push_4 : decode cX6_push 4 = .ok (.ifCond .eq 23, 3) := by decide +kernel
theorem dX6_push_7 : decode cX6_push 7 = .ok (.aload_n 0, 1) := by decide +kernel
theorem dX6_push_8 : decode cX6_push 8 = .ok (.dup, 1) := by decide +kernel
theorem dX6_push_9 : decode cX6_push 9 = .ok (.getfield 16, 3) := by decide +kernel
theorem dX6_push_12 : decode cX6_push 12 = .ok (.iconst 1, 1) := by decide +kernel
theorem dX6_push_13 : decode cX6_push 13 = .ok (.iadd, 1) := by decide +kernel
theorem dX6_push_14 : decode cX6_push 14 = .ok (.putfield 16, 3) := by decide +kernel
theorem dX6_push_17 : decode cX6_push 17 = .ok (.aload_n 0, 1) := by decide +kernel
theorem dX6_push_18 : decode cX6_push 18 = .ok (.dup, 1) := by decide +kernel
theorem dX6_push_19 : decode cX6_push 19 = .ok (.getfield 20, 3) := by decide +kernel
theorem dX6_push_22 : decode cX6_push 22 = .ok (.iconst 1, 1) := by decide +kernel
theorem dX6_push_23 : decode cX6_push 23 = .ok (.isub, 1) := by decide +kernel
theorem dX6_push_24 : decode cX6_push 24 = .ok (.putfield 20, 3) := by decide +kernel
theorem dX6_push_27 : decode cX6_push 27 = .ok (.aload_n 0, 1) := by decide +kernel
theorem dX6_push_28 : decode cX6_push 28 = .ok (.aload_n 0, 1) := by decide +kernel
theorem dX6_push_29 : decode cX6_push 29 = .ok (.getfield 20, 3) := by decide +kernel
theorem dX6_push_32 : decode cX6_push 32 = .ok (.invokevirtual 27, 3) := by decide +kernel
theorem dX6_push_35 : decode cX6_push 35 = .ok (.astore_n 2, 1) := by decide +kernel
theorem dX6_push_36 : decode cX6_push 36 = .ok (.aload_n 2, 1) := by decide +kernel
theorem dX6_push_37 : decode cX6_push 37 = .ok (.ifnull 18, 3) := by decide +kernel
theorem dX6_push_40 : decode cX6_push 40 = .ok (.aload_n 2, 1) := by decide +kernel
theorem dX6_push_41 : decode cX6_push 41 = .ok (.aload_n 1, 1) := by decide +kernel
theorem dX6_push_42 : decode cX6_push 42 = .ok (.invokevirtual 31, 3) := by decide +kernel
theorem dX6_push_45 : decode cX6_push 45 = .ok (.aload_n 0, 1) := by decide +kernel
theorem dX6_push_46 : decode cX6_push 46 = .ok (.dup, 1) := by decide +kernel
theorem dX6_push_47 : decode cX6_push 47 = .ok (.getfield 20, 3) := by decide +kernel
theorem dX6_push_50 : decode cX6_push 50 = .ok (.iconst 1, 1) := by decide +kernel
theorem dX6_push_51 : decode cX6_push 51 = .ok (.iadd, 1) := by decide +kernel
theorem dX6_push_52 : decode cX6_push 52 = .ok (.putfield 20, 3) := by decide +kernel
theorem dX6_push_55 : decode cX6_push 55 = .ok (.return_, 1) := by decide +kernel
theorem dX6_pop_0 : decode cX6_pop 0 = .ok (.aload_n 0, 1) := by decide +kernel
theorem dX6_pop_1 : decode cX6_pop 1 = .ok (.aload_n 0, 1) := by decide +kernel
theorem dX6_pop_2 : decode cX6_pop 2 = .ok (.getfield 20, 3) := by decide +kernel
theorem dX6_pop_5 : decode cX6_pop 5 = .ok (.iconst 1, 1) := by decide +kernel
theorem dX6_pop_6 : decode cX6_pop 6 = .ok (.isub, 1) := by decide +kernel
theorem dX6_pop_7 : decode cX6_pop 7 = .ok (.aload_n 1, 1) := by decide +kernel
theorem dX6_pop_8 : decode cX6_pop 8 = .ok (.invokevirtual 35, 3) := by decide +kernel
theorem dX6_pop_11 : decode cX6_pop 11 = .ok (.ifCond .ne 5, 3) := by decide +kernel
theorem dX6_pop_14 : decode cX6_pop 14 = .ok (.iconst 0, 1) := by decide +kernel
theorem dX6_pop_15 : decode cX6_pop 15 = .ok (.ireturn, 1) := by decide +kernel
theorem dX6_pop_16 : decode cX6_pop 16 = .ok (.aload_n 0, 1) := by decide +kernel
theorem dX6_pop_17 : decode cX6_pop 17 = .ok (.dup, 1) := by decide +kernel
theorem dX6_pop_18 : decode cX6_pop 18 = .ok (.getfield 20, 3) := by decide +kernel
theorem dX6_pop_21 : decode cX6_pop 21 = .ok (.iconst 1, 1) := by decide +kernel
theorem dX6_pop_22 : decode cX6_pop 22 = .ok (.isub, 1) := by decide +kernel
theorem dX6_pop_23 : decode cX6_pop 23 = .ok (.putfield 20, 3) := by decide +kernel
theorem dX6_pop_26 : decode cX6_pop 26 = .ok (.iconst 1, 1) := by decide +kernel
theorem dX6_pop_27 : decode cX6_pop 27 = .ok (.ireturn, 1) := by decide +kernel
theorem dX6_show_0 : decode cX6_show 0 = .ok (.iload_n 1, 1) := by decide +kernel
theorem dX6_show_1 : decode cX6_show 1 = .ok (.ifCond .lt 11, 3) := by decide +kernel
theorem dX6_show_4 : decode cX6_show 4 = .ok (.iload_n 1, 1) := by decide +kernel
theorem dX6_show_5 : decode cX6_show 5 = .ok (.aload_n 0, 1) := by decide +kernel
theorem dX6_show_6 : decode cX6_show 6 = .ok (.getfield 20, 3) := by decide +kernel
theorem dX6_show_9 : decode cX6_show 9 = .ok (.if_icmp .lt 7, 3) := by decide +kernel
theorem dX6_show_12 : decode cX6_show 12 = .ok (.aconst_null, 1) := by decide +kernel
theorem dX6_show_13 : decode cX6_show 13 = .ok (.goto 8, 3) := by decide +kernel
theorem dX6_show_16 : decode cX6_show 16 = .ok (.aload_n 0, 1) := by decide +kernel
theorem dX6_show_17 : decode cX6_show 17 = .ok (.iload_n 1, 1) := by decide +kernel
theorem dX6_show_18 : decode cX6_show 18 = .ok (.invokevirtual 27, 3) := by decide +kernel
theorem dX6_show_21 : decode cX6_show 21 = .ok (.astore_n 3, 1) := by decide +kernel
theorem dX6_show_22 : decode cX6_show 22 = .ok (.aload_n 3, 1) := by decide +kernel
theorem dX6_show_23 : decode cX6_show 23 = .ok (.ifnull 7, 3) := by decide +kernel
theorem dX6_show_26 : decode cX6_show 26 = .ok (.aload_n 2, 1) := by decide +kernel
theorem dX6_show_27 : decode cX6_show 27 = .ok (.ifnonnull 5, 3) := by decide +kernel
theorem dX6_show_30 : decode cX6_show 30 = .ok (.iconst 0, 1) := by decide +kernel
theorem dX6_show_31 : decode cX6_show 31 = .ok (.ireturn, 1) := by decide +kernel
theorem dX6_show_32 : decode cX6_show 32 = .ok (.aload_n 2, 1) := by decide +kernel
theorem dX6_show_33 : decode cX6_show 33 = .ok (.aload_n 3, 1) := by decide +kernel
theorem dX6_show_34 : decode cX6_show 34 = .ok (.invokevirtual 31, 3) := by decide +kernel
theorem dX6_show_37 : decode cX6_show 37 = .ok (.iconst 1, 1) := by decide +kernel
theorem dX6_show_38 : decode cX6_show 38 = .ok (.ireturn, 1) := by decide +kernel
theorem dX6_rowAt_0 : decode cX6_rowAt 0 = .ok (.aload_n 0, 1) := by decide +kernel
theorem dX6_rowAt_1 : decode cX6_rowAt 1 = .ok (.getfield 9, 3) := by decide +kernel
theorem dX6_rowAt_4 : decode cX6_rowAt 4 = .ok (.arraylength, 1) := by decide +kernel
theorem dX6_rowAt_5 : decode cX6_rowAt 5 = .ok (.iconst 1, 1) := by decide +kernel
theorem dX6_rowAt_6 : decode cX6_rowAt 6 = .ok (.if_icmp .ge 5, 3) := by decide +kernel
theorem dX6_rowAt_9 : decode cX6_rowAt 9 = .ok (.aconst_null, 1) := by decide +kernel
theorem dX6_rowAt_10 : decode cX6_rowAt 10 = .ok (.areturn, 1) := by decide +kernel
theorem dX6_rowAt_11 : decode cX6_rowAt 11 = .ok (.aload_n 0, 1) := by decide +kernel
theorem dX6_rowAt_12 : decode cX6_rowAt 12 = .ok (.getfield 16, 3) := by decide +kernel
theorem dX6_rowAt_15 : decode cX6_rowAt 15 = .ok (.iload_n 1, 1) := by decide +kernel
theorem dX6_rowAt_16 : decode cX6_rowAt 16 = .ok (.iadd, 1) := by decide +kernel
theorem dX6_rowAt_17 : decode cX6_rowAt 17 = .ok (.aload_n 0, 1) := by decide +kernel
theorem dX6_rowAt_18 : decode cX6_rowAt 18 = .ok (.getfield 9, 3) := by decide +kernel
theorem dX6_rowAt_21 : decode cX6_rowAt 21 = .ok (.arraylength, 1) := by decide +kernel
theorem dX6_rowAt_22 : decode cX6_rowAt 22 = .ok (.invokestatic 39, 3) := by decide +kernel
theorem dX6_rowAt_25 : decode cX6_rowAt 25 = .ok (.istore_n 2, 1) := by decide +kernel
theorem dX6_rowAt_26 : decode cX6_rowAt 26 = .ok (.iload_n 2, 1) := by decide +kernel
theorem dX6_rowAt_27 : decode cX6_rowAt 27 = .ok (.aload_n 0, 1) := by decide +kernel
theorem dX6_rowAt_28 : decode cX6_rowAt 28 = .ok (.getfield 9, 3) := by decide +kernel
theorem dX6_rowAt_31 : decode cX6_rowAt 31 = .ok (.arraylength, 1) := by decide +kernel
theorem dX6_rowAt_32 : decode cX6_rowAt 32 = .ok (.if_icmp .ge 12, 3) := by decide +kernel
theorem dX6_rowAt_35 : decode cX6_rowAt 35 = .ok (.aload_n 0, 1) := by decide +kernel
theorem dX6_rowAt_36 : decode cX6_rowAt 36 = .ok (.getfield 9, 3) := by decide +kernel
theorem dX6_rowAt_39 : decode cX6_rowAt 39 = .ok (.iload_n 2, 1) := by decide +kernel
theorem dX6_rowAt_40 : decode cX6_rowAt 40 = .ok (.aaload, 1) := by decide +kernel
theorem dX6_rowAt_41 : decode cX6_rowAt 41 = .ok (.goto 4, 3) := by decide +kernel
theorem dX6_rowAt_44 : decode cX6_rowAt 44 = .ok (.aconst_null, 1) := by decide +kernel
theorem dX6_rowAt_45 : decode cX6_rowAt 45 = .ok (.areturn, 1) := by decide +kernel
theorem dX7_init_0 : decode cX7_init 0 = .ok (.aload_n 0, 1) := by decide +kernel
theorem dX7_init_1 : decode cX7_init 1 = .ok (.invokespecial 1, 3) := by decide +kernel
theorem dX7_init_4 : decode cX7_init 4 = .ok (.aload_n 0, 1) := by decide +kernel
theorem dX7_init_5 : decode cX7_init 5 = .ok (.new 7, 3) := by decide +kernel
theorem dX7_init_8 : decode cX7_init 8 = .ok (.dup, 1) := by decide +kernel
theorem dX7_init_9 : decode cX7_init 9 = .ok (.sipush 900, 3) := by decide +kernel
theorem dX7_init_12 : decode cX7_init 12 = .ok (.iconst 1, 1) := by decide +kernel
theorem dX7_init_13 : decode cX7_init 13 = .ok (.invokespecial 11, 3) := by decide +kernel
theorem dX7_init_16 : decode cX7_init 16 = .ok (.putfield 14, 3) := by decide +kernel
theorem dX7_init_19 : decode cX7_init 19 = .ok (.aload_n 0, 1) := by decide +kernel
theorem dX7_init_20 : decode cX7_init 20 = .ok (.new 18, 3) := by decide +kernel
theorem dX7_init_23 : decode cX7_init 23 = .ok (.dup, 1) := by decide +kernel
theorem dX7_init_24 : decode cX7_init 24 = .ok (.invokespecial 20, 3) := by decide +kernel
theorem dX7_init_27 : decode cX7_init 27 = .ok (.putfield 21, 3) := by decide +kernel
theorem dX7_init_30 : decode cX7_init 30 = .ok (.aload_n 0, 1) := by decide +kernel
theorem dX7_init_31 : decode cX7_init 31 = .ok (.new 18, 3) := by decide +kernel
theorem dX7_init_34 : decode cX7_init 34 = .ok (.dup, 1) := by decide +kernel
theorem dX7_init_35 : decode cX7_init 35 = .ok (.invokespecial 20, 3) := by decide +kernel
theorem dX7_init_38 : decode cX7_init 38 = .ok (.putfield 25, 3) := by decide +kernel
theorem dX7_init_41 : decode cX7_init 41 = .ok (.aload_n 0, 1) := by decide +kernel
theorem dX7_init_42 : decode cX7_init 42 = .ok (.new 28, 3) := by decide +kernel
theorem dX7_init_45 : decode cX7_init 45 = .ok (.dup, 1) := by decide +kernel
theorem dX7_init_46 : decode cX7_init 46 = .ok (.aload_n 0, 1) := by decide +kernel
theorem dX7_init_47 : decode cX7_init 47 = .ok (.getfield 14, 3) := by decide +kernel
theorem dX7_init_50 : decode cX7_init 50 = .ok (.aload_n 0, 1) := by decide +kernel
theorem dX7_init_51 : decode cX7_init 51 = .ok (.getfield 21, 3) := by decide +kernel
theorem dX7_init_54 : decode cX7_init 54 = .ok (.invokespecial 30, 3) := by decide +kernel
theorem dX7_init_57 : decode cX7_init 57 = .ok (.putfield 33, 3) := by decide +kernel
theorem dX7_init_60 : decode cX7_init 60 = .ok (.aload_n 0, 1) := by decide +kernel
theorem dX7_init_61 : decode cX7_init 61 = .ok (.new 37, 3) := by decide +kernel
theorem dX7_init_64 : decode cX7_init 64 = .ok (.dup, 1) := by decide +kernel
theorem dX7_init_65 : decode cX7_init 65 = .ok (.invokespecial 39, 3) := by decide +kernel
theorem dX7_init_68 : decode cX7_init 68 = .ok (.putfield 40, 3) := by decide +kernel
theorem dX7_init_71 : decode cX7_init 71 = .ok (.aload_n 0, 1) := by decide +kernel
theorem dX7_init_72 : decode cX7_init 72 = .ok (.new 37, 3) := by decide +kernel
theorem dX7_init_75 : decode cX7_init 75 = .ok (.dup, 1) := by decide +kernel
theorem dX7_init_76 : decode cX7_init 76 = .ok (.invokespecial 39, 3) := by decide +kernel
theorem dX7_init_79 : decode cX7_init 79 = .ok (.putfield 44, 3) := by decide +kernel
theorem dX7_init_82 : decode cX7_init 82 = .ok (.aload_n 0, 1) := by decide +kernel
theorem dX7_init_83 : decode cX7_init 83 = .ok (.new 47, 3) := by decide +kernel
theorem dX7_init_86 : decode cX7_init 86 = .ok (.dup, 1) := by decide +kernel
theorem dX7_init_87 : decode cX7_init 87 = .ok (.aload_n 0, 1) := by decide +kernel
theorem dX7_init_88 : decode cX7_init 88 = .ok (.getfield 25, 3) := by decide +kernel
theorem dX7_init_91 : decode cX7_init 91 = .ok (.invokespecial 49, 3) := by decide +kernel
theorem dX7_init_94 : decode cX7_init 94 = .ok (.putfield 52, 3) := by decide +kernel
theorem dX7_init_97 : decode cX7_init 97 = .ok (.aload_n 0, 1) := by decide +kernel
theorem dX7_init_98 : decode cX7_init 98 = .ok (.new 56, 3) := by decide +kernel
theorem dX7_init_101 : decode cX7_init 101 = .ok (.dup, 1) := by decide +kernel
theorem dX7_init_102 : decode cX7_init 102 = .ok (.bipush 10, 2) := by decide +kernel
theorem dX7_init_104 : decode cX7_init 104 = .ok (.invokespecial 58, 3) := by decide +kernel
theorem dX7_init_107 : decode cX7_init 107 = .ok (.putfield 61, 3) := by decide +kernel
theorem dX7_init_110 : decode cX7_init 110 = .ok (.aload_n 0, 1) := by decide +kernel
theorem dX7_init_111 : decode cX7_init 111 = .ok (.new 56, 3) := by decide +kernel
theorem dX7_init_114 : decode cX7_init 114 = .ok (.dup, 1) := by decide +kernel
theorem dX7_init_115 : decode cX7_init 115 = .ok (.iconst 3, 1) := by decide +kernel
theorem dX7_init_116 : decode cX7_init 116 = .ok (.invokespecial 58, 3) := by decide +kernel
theorem dX7_init_119 : decode cX7_init 119 = .ok (.putfield 65, 3) := by decide +kernel
theorem dX7_init_122 : decode cX7_init 122 = .ok (.aload_n 0, 1) := by decide +kernel
theorem dX7_init_123 : decode cX7_init 123 = .ok (.new 68, 3) := by decide +kernel
theorem dX7_init_126 : decode cX7_init 126 = .ok (.dup, 1) := by decide +kernel
theorem dX7_init_127 : decode cX7_init 127 = .ok (.invokespecial 70, 3) := by decide +kernel
theorem dX7_init_130 : decode cX7_init 130 = .ok (.putfield 71, 3) := by decide +kernel
theorem dX7_init_133 : decode cX7_init 133 = .ok (.aload_n 0, 1) := by decide +kernel
theorem dX7_init_134 : decode cX7_init 134 = .ok (.new 7, 3) := by decide +kernel
theorem dX7_init_137 : decode cX7_init 137 = .ok (.dup, 1) := by decide +kernel
theorem dX7_init_138 : decode cX7_init 138 = .ok (.bipush 48, 2) := by decide +kernel
theorem dX7_init_140 : decode cX7_init 140 = .ok (.iconst 1, 1) := by decide +kernel
theorem dX7_init_141 : decode cX7_init 141 = .ok (.invokespecial 11, 3) := by decide +kernel
theorem dX7_init_144 : decode cX7_init 144 = .ok (.putfield 75, 3) := by decide +kernel
theorem dX7_init_147 : decode cX7_init 147 = .ok (.aload_n 0, 1) := by decide +kernel
theorem dX7_init_148 : decode cX7_init 148 = .ok (.iconst 0, 1) := by decide +kernel
theorem dX7_init_149 : decode cX7_init 149 = .ok (.putfield 78, 3) := by decide +kernel
theorem dX7_init_152 : decode cX7_init 152 = .ok (.aload_n 0, 1) := by decide +kernel
theorem dX7_init_153 : decode cX7_init 153 = .ok (.iconst 0, 1) := by decide +kernel
theorem dX7_init_154 : decode cX7_init 154 = .ok (.putfield 82, 3) := by decide +kernel
theorem dX7_init_157 : decode cX7_init 157 = .ok (.aload_n 0, 1) := by decide +kernel
theorem dX7_init_158 : decode cX7_init 158 = .ok (.iconst 0, 1) := by decide +kernel
theorem dX7_init_159 : decode cX7_init 159 = .ok (.putfield 86, 3) := by decide +kernel
theorem dX7_init_162 : decode cX7_init 162 = .ok (.aload_n 0, 1) := by decide +kernel
theorem dX7_init_163 : decode cX7_init 163 = .ok (.iconst 0, 1) := by decide +kernel
theorem dX7_init_164 : decode cX7_init 164 = .ok (.putfield 89, 3) := by decide +kernel
theorem dX7_init_167 : decode cX7_init 167 = .ok (.return_, 1) := by decide +kernel
theorem dX7_feed_0 : decode cX7_feed 0 = .ok (.aload_n 0, 1) := by decide +kernel
theorem dX7_feed_1 : decode cX7_feed 1 = .ok (.getfield 14, 3) := by decide +kernel
theorem dX7_feed_4 : decode cX7_feed 4 = .ok (.invokevirtual 92, 3) := by decide +kernel
theorem dX7_feed_7 : decode cX7_feed 7 = .ok (.bipush 20, 2) := by decide +kernel
theorem dX7_feed_9 : decode cX7_feed 9 = .ok (.iadd, 1) := by decide +kernel
theorem dX7_feed_10 : decode cX7_feed 10 = .ok (.sipush 900, 3) := by decide +kernel
theorem dX7_feed_13 : decode cX7_feed 13 = .ok (.if_icmp .le 5, 3) := by decide +kernel
theorem dX7_feed_16 : decode cX7_feed 16 = .ok (.iconst (-1), 1) := by decide +kernel
theorem dX7_feed_17 : decode cX7_feed 17 = .ok (.ireturn, 1) := by decide +kernel
theorem dX7_feed_18 : decode cX7_feed 18 = .ok (.aload_n 0, 1) := by decide +kernel
theorem dX7_feed_19 : decode cX7_feed 19 = .ok (.iload_n 1, 1) := by decide +kernel
theorem dX7_feed_20 : decode cX7_feed 20 = .ok (.invokevirtual 96, 3) := by decide +kernel
theorem dX7_feed_23 : decode cX7_feed 23 = .ok (.aload_n 0, 1) := by decide +kernel
theorem dX7_feed_24 : decode cX7_feed 24 = .ok (.iload_n 2, 1) := by decide +kernel
theorem dX7_feed_25 : decode cX7_feed 25 = .ok (.invokevirtual 96, 3) := by decide +kernel
theorem dX7_feed_28 : decode cX7_feed 28 = .ok (.aload_n 0, 1) := by decide +kernel
theorem dX7_feed_29 : decode cX7_feed 29 = .ok (.iload_n 3, 1) := by decide +kernel
theorem dX7_feed_30 : decode cX7_feed 30 = .ok (.invokevirtual 96, 3) := by decide +kernel
theorem dX7_feed_33 : decode cX7_feed 33 = .ok (.aload_n 0, 1) := by decide +kernel
theorem dX7_feed_34 : decode cX7_feed 34 = .ok (.iload 4, 2) := by decide +kernel
theorem dX7_feed_36 : decode cX7_feed 36 = .ok (.invokevirtual 96, 3) := by decide +kernel
theorem dX7_feed_39 : decode cX7_feed 39 = .ok (.aload_n 0, 1) := by decide +kernel
theorem dX7_feed_40 : decode cX7_feed 40 = .ok (.iload 5, 2) := by decide +kernel
theorem dX7_feed_42 : decode cX7_feed 42 = .ok (.invokevirtual 96, 3) := by decide +kernel
theorem dX7_feed_45 : decode cX7_feed 45 = .ok (.aload_n 0, 1) := by decide +kernel
theorem dX7_feed_46 : decode cX7_feed 46 = .ok (.getfield 14, 3) := by decide +kernel
theorem dX7_feed_49 : decode cX7_feed 49 = .ok (.invokevirtual 92, 3) := by decide +kernel
theorem dX7_feed_52 : decode cX7_feed 52 = .ok (.ireturn, 1) := by decide +kernel
theorem dX7_hall_0 : decode cX7_hall 0 = .ok (.iload_n 1, 1) := by decide +kernel
theorem dX7_hall_1 : decode cX7_hall 1 = .ok (.ifCond .lt 14, 3) := by decide +kernel
theorem dX7_hall_4 : decode cX7_hall 4 = .ok (.iload_n 1, 1) := by decide +kernel
theorem dX7_hall_5 : decode cX7_hall 5 = .ok (.aload_n 0, 1) := by decide +kernel
theorem dX7_hall_6 : decode cX7_hall 6 = .ok (.getfield 14, 3) := by decide +kernel
theorem dX7_hall_9 : decode cX7_hall 9 = .ok (.invokevirtual 92, 3) := by decide +kernel
theorem dX7_hall_12 : decode cX7_hall 12 = .ok (.if_icmp .le 9, 3) := by decide +kernel
theorem dX7_hall_15 : decode cX7_hall 15 = .ok (.aload_n 0, 1) := by decide +kernel
theorem dX7_hall_16 : decode cX7_hall 16 = .ok (.iconst 2, 1) := by decide +kernel
theorem dX7_hall_17 : decode cX7_hall 17 = .ok (.invokevirtual 99, 3) := by decide +kernel
theorem dX7_hall_20 : decode cX7_hall 20 = .ok (.ireturn, 1) := by decide +kernel
theorem dX7_hall_21 : decode cX7_hall 21 = .ok (.aload_n 0, 1) := by decide +kernel
theorem dX7_hall_22 : decode cX7_hall 22 = .ok (.getfield 33, 3) := by decide +kernel
theorem dX7_hall_25 : decode cX7_hall 25 = .ok (.iload_n 1, 1) := by decide +kernel
theorem dX7_hall_26 : decode cX7_hall 26 = .ok (.invokevirtual 103, 3) := by decide +kernel
theorem dX7_hall_29 : decode cX7_hall 29 = .ok (.istore_n 2, 1) := by decide +kernel
theorem dX7_hall_30 : decode cX7_hall 30 = .ok (.aload_n 0, 1) := by decide +kernel
theorem dX7_hall_31 : decode cX7_hall 31 = .ok (.aload_n 0, 1) := by decide +kernel
theorem dX7_hall_32 : decode cX7_hall 32 = .ok (.getfield 33, 3) := by decide +kernel
theorem dX7_hall_35 : decode cX7_hall 35 = .ok (.getfield 107, 3) := by decide +kernel
theorem dX7_hall_38 : decode cX7_hall 38 = .ok (.putfield 82, 3) := by decide +kernel
theorem dX7_hall_41 : decode cX7_hall 41 = .ok (.aload_n 0, 1) := by decide +kernel
theorem dX7_hall_42 : decode cX7_hall 42 = .ok (.aload_n 0, 1) := by decide +kernel
theorem dX7_hall_43 : decode cX7_hall 43 = .ok (.getfield 33, 3) := by decide +kernel
theorem dX7_hall_46 : decode cX7_hall 46 = .ok (.getfield 108, 3) := by decide +kernel
theorem dX7_hall_49 : decode cX7_hall 49 = .ok (.putfield 86, 3) := by decide +kernel
theorem dX7_hall_52 : decode cX7_hall 52 = .ok (.aload_n 0, 1) := by decide +kernel
theorem dX7_hall_53 : decode cX7_hall 53 = .ok (.getfield 14, 3) := by decide +kernel
theorem dX7_hall_56 : decode cX7_hall 56 = .ok (.iconst 0, 1) := by decide +kernel
theorem dX7_hall_57 : decode cX7_hall 57 = .ok (.invokevirtual 109, 3) := by decide +kernel
theorem dX7_hall_60 : decode cX7_hall 60 = .ok (.iload_n 2, 1) := by decide +kernel
theorem dX7_hall_61 : decode cX7_hall 61 = .ok (.ifCond .ne 9, 3) := by decide +kernel
theorem dX7_hall_64 : decode cX7_hall 64 = .ok (.aload_n 0, 1) := by decide +kernel
theorem dX7_hall_65 : decode cX7_hall 65 = .ok (.iconst 4, 1) := by decide +kernel
theorem dX7_hall_66 : decode cX7_hall 66 = .ok (.invokevirtual 99, 3) := by decide +kernel
theorem dX7_hall_69 : decode cX7_hall 69 = .ok (.ireturn, 1) := by decide +kernel
theorem dX7_hall_70 : decode cX7_hall 70 = .ok (.aload_n 0, 1) := by decide +kernel
theorem dX7_hall_71 : decode cX7_hall 71 = .ok (.getfield 25, 3) := by decide +kernel
theorem dX7_hall_74 : decode cX7_hall 74 = .ok (.aload_n 0, 1) := by decide +kernel
theorem dX7_hall_75 : decode cX7_hall 75 = .ok (.getfield 21, 3) := by decide +kernel
theorem dX7_hall_78 : decode cX7_hall 78 = .ok (.invokevirtual 112, 3) := by decide +kernel
theorem dX7_hall_81 : decode cX7_hall 81 = .ok (.aload_n 0, 1) := by decide +kernel
theorem dX7_hall_82 : decode cX7_hall 82 = .ok (.getfield 25, 3) := by decide +kernel
theorem dX7_hall_85 : decode cX7_hall 85 = .ok (.invokevirtual 115, 3) := by decide +kernel
theorem dX7_hall_88 : decode cX7_hall 88 = .ok (.aload_n 0, 1) := by decide +kernel
theorem dX7_hall_89 : decode cX7_hall 89 = .ok (.getfield 40, 3) := by decide +kernel
theorem dX7_hall_92 : decode cX7_hall 92 = .ok (.aload_n 0, 1) := by decide +kernel
theorem dX7_hall_93 : decode cX7_hall 93 = .ok (.getfield 25, 3) := by decide +kernel
theorem dX7_hall_96 : decode cX7_hall 96 = .ok (.invokevirtual 118, 3) := by decide +kernel
theorem dX7_hall_99 : decode cX7_hall 99 = .ok (.aload_n 0, 1) := by decide +kernel
theorem dX7_hall_100 : decode cX7_hall 100 = .ok (.getfield 44, 3) := by decide +kernel
theorem dX7_hall_103 : decode cX7_hall 103 = .ok (.aload_n 0, 1) := by decide +kernel
theorem dX7_hall_104 : decode cX7_hall 104 = .ok (.getfield 40, 3) := by decide +kernel
theorem dX7_hall_107 : decode cX7_hall 107 = .ok (.invokevirtual 121, 3) := by decide +kernel
theorem dX7_hall_110 : decode cX7_hall 110 = .ok (.aload_n 0, 1) := by decide +kernel
theorem dX7_hall_111 : decode cX7_hall 111 = .ok (.getfield 61, 3) := by decide +kernel
theorem dX7_hall_114 : decode cX7_hall 114 = .ok (.invokevirtual 124, 3) := by decide +kernel
theorem dX7_hall_117 : decode cX7_hall 117 = .ok (.aload_n 0, 1) := by decide +kernel
theorem dX7_hall_118 : decode cX7_hall 118 = .ok (.getfield 65, 3) := by decide +kernel
theorem dX7_hall_121 : decode cX7_hall 121 = .ok (.invokevirtual 124, 3) := by decide +kernel
theorem dX7_hall_124 : decode cX7_hall 124 = .ok (.aload_n 0, 1) := by decide +kernel
theorem dX7_hall_125 : decode cX7_hall 125 = .ok (.iconst 1, 1) := by decide +kernel
theorem dX7_hall_126 : decode cX7_hall 126 = .ok (.putfield 78, 3) := by decide +kernel
theorem dX7_hall_129 : decode cX7_hall 129 = .ok (.aload_n 0, 1) := by decide +kernel
theorem dX7_hall_130 : decode cX7_hall 130 = .ok (.aload_n 0, 1) := by decide +kernel
theorem dX7_hall_131 : decode cX7_hall 131 = .ok (.getfield 44, 3) := by decide +kernel
theorem dX7_hall_134 : decode cX7_hall 134 = .ok (.getfield 127, 3) := by decide +kernel
theorem dX7_hall_137 : decode cX7_hall 137 = .ok (.invokevirtual 92, 3) := by decide +kernel
theorem dX7_hall_140 : decode cX7_hall 140 = .ok (.invokevirtual 130, 3) := by decide +kernel
theorem dX7_hall_143 : decode cX7_hall 143 = .ok (.ireturn, 1) := by decide +kernel
theorem dX7_fault_0 : decode cX7_fault 0 = .ok (.aload_n 0, 1) := by decide +kernel
theorem dX7_fault_1 : decode cX7_fault 1 = .ok (.getfield 82, 3) := by decide +kernel
theorem dX7_fault_4 : decode cX7_fault 4 = .ok (.ireturn, 1) := by decide +kernel
theorem dX7_where_0 : decode cX7_where 0 = .ok (.aload_n 0, 1) := by decide +kernel
theorem dX7_where_1 : decode cX7_where 1 = .ok (.getfield 89, 3) := by decide +kernel
theorem dX7_where_4 : decode cX7_where 4 = .ok (.iconst 4, 1) := by decide +kernel
theorem dX7_where_5 : decode cX7_where 5 = .ok (.if_icmp .ne 10, 3) := by decide +kernel
theorem dX7_where_8 : decode cX7_where 8 = .ok (.aload_n 0, 1) := by decide +kernel
theorem dX7_where_9 : decode cX7_where 9 = .ok (.getfield 86, 3) := by decide +kernel
theorem dX7_where_12 : decode cX7_where 12 = .ok (.goto 4, 3) := by decide +kernel
theorem dX7_where_15 : decode cX7_where 15 = .ok (.iconst (-1), 1) := by decide +kernel
theorem dX7_where_16 : decode cX7_where 16 = .ok (.ireturn, 1) := by decide +kernel
theorem dX7_cell_0 : decode cX7_cell 0 = .ok (.aload_n 0, 1) := by decide +kernel
theorem dX7_cell_1 : decode cX7_cell 1 = .ok (.iload_n 1, 1) := by decide +kernel
theorem dX7_cell_2 : decode cX7_cell 2 = .ok (.iload_n 2, 1) := by decide +kernel
theorem dX7_cell_3 : decode cX7_cell 3 = .ok (.invokevirtual 133, 3) := by decide +kernel
theorem dX7_cell_6 : decode cX7_cell 6 = .ok (.istore_n 3, 1) := by decide +kernel
theorem dX7_cell_7 : decode cX7_cell 7 = .ok (.iload_n 3, 1) := by decide +kernel
theorem dX7_cell_8 : decode cX7_cell 8 = .ok (.ifCond .ge 11, 3) := by decide +kernel
theorem dX7_cell_11 : decode cX7_cell 11 = .ok (.aload_n 0, 1) := by decide +kernel
theorem dX7_cell_12 : decode cX7_cell 12 = .ok (.iconst 1, 1) := by decide +kernel
theorem dX7_cell_13 : decode cX7_cell 13 = .ok (.invokevirtual 99, 3) := by decide +kernel
theorem dX7_cell_16 : decode cX7_cell 16 = .ok (.goto 19, 3) := by decide +kernel
theorem dX7_cell_19 : decode cX7_cell 19 = .ok (.aload_n 0, 1) := by decide +kernel
theorem dX7_cell_20 : decode cX7_cell 20 = .ok (.aload_n 0, 1) := by decide +kernel
theorem dX7_cell_21 : decode cX7_cell 21 = .ok (.getfield 25, 3) := by decide +kernel
theorem dX7_cell_24 : decode cX7_cell 24 = .ok (.getfield 137, 3) := by decide +kernel
theorem dX7_cell_27 : decode cX7_cell 27 = .ok (.iload_n 3, 1) := by decide +kernel
theorem dX7_cell_28 : decode cX7_cell 28 = .ok (.iconst 0, 1) := by decide +kernel
theorem dX7_cell_29 : decode cX7_cell 29 = .ok (.invokevirtual 140, 3) := by decide +kernel
theorem dX7_cell_32 : decode cX7_cell 32 = .ok (.invokevirtual 130, 3) := by decide +kernel
theorem dX7_cell_35 : decode cX7_cell 35 = .ok (.ireturn, 1) := by decide +kernel
theorem dX7_many_0 : decode cX7_many 0 = .ok (.aload_n 0, 1) := by decide +kernel
theorem dX7_many_1 : decode cX7_many 1 = .ok (.getfield 78, 3) := by decide +kernel
theorem dX7_many_4 : decode cX7_many 4 = .ok (.ifCond .eq 20, 3) := by decide +kernel
theorem dX7_many_7 : decode cX7_many 7 = .ok (.aload_n 0, 1) := by decide +kernel
theorem dX7_many_8 : decode cX7_many 8 = .ok (.aload_n 0, 1) := by decide +kernel
theorem dX7_many_9 : decode cX7_many 9 = .ok (.getfield 44, 3) := by decide +kernel
theorem dX7_many_12 : decode cX7_many 12 = .ok (.getfield 127, 3) := by decide +kernel
theorem dX7_many_15 : decode cX7_many 15 = .ok (.invokevirtual 92, 3) := by decide +kernel
theorem dX7_many_18 : decode cX7_many 18 = .ok (.invokevirtual 130, 3) := by decide +kernel
theorem dX7_many_21 : decode cX7_many 21 = .ok (.goto 8, 3) := by decide +kernel
theorem dX7_many_24 : decode cX7_many 24 = .ok (.aload_n 0, 1) := by decide +kernel
theorem dX7_many_25 : decode cX7_many 25 = .ok (.iconst 1, 1) := by decide +kernel
theorem dX7_many_26 : decode cX7_many 26 = .ok (.invokevirtual 99, 3) := by decide +kernel
theorem dX7_many_29 : decode cX7_many 29 = .ok (.ireturn, 1) := by decide +kernel
theorem dX7_dancer_0 : decode cX7_dancer 0 = .ok (.aload_n 0, 1) := by decide +kernel
theorem dX7_dancer_1 : decode cX7_dancer 1 = .ok (.iload_n 1, 1) := by decide +kernel
theorem dX7_dancer_2 : decode cX7_dancer 2 = .ok (.invokevirtual 143, 3) := by decide +kernel
theorem dX7_dancer_5 : decode cX7_dancer 5 = .ok (.ifCond .ne 9, 3) := by decide +kernel
theorem dX7_dancer_8 : decode cX7_dancer 8 = .ok (.aload_n 0, 1) := by decide +kernel
theorem dX7_dancer_9 : decode cX7_dancer 9 = .ok (.iconst 1, 1) := by decide +kernel
theorem dX7_dancer_10 : decode cX7_dancer 10 = .ok (.invokevirtual 99, 3) := by decide +kernel
theorem dX7_dancer_13 : decode cX7_dancer 13 = .ok (.ireturn, 1) := by decide +kernel
theorem dX7_dancer_14 : decode cX7_dancer 14 = .ok (.iload_n 2, 1) := by decide +kernel
theorem dX7_dancer_15 : decode cX7_dancer 15 = .ok (.tableswitch 152 0 6 #[41, 58, 71, 84, 101, 118, 135], 41) := by decide +kernel
theorem dX7_dancer_56 : decode cX7_dancer 56 = .ok (.aload_n 0, 1) := by decide +kernel
theorem dX7_dancer_57 : decode cX7_dancer 57 = .ok (.aload_n 0, 1) := by decide +kernel
theorem dX7_dancer_58 : decode cX7_dancer 58 = .ok (.getfield 44, 3) := by decide +kernel
theorem dX7_dancer_61 : decode cX7_dancer 61 = .ok (.getfield 127, 3) := by decide +kernel
theorem dX7_dancer_64 : decode cX7_dancer 64 = .ok (.iload_n 1, 1) := by decide +kernel
theorem dX7_dancer_65 : decode cX7_dancer 65 = .ok (.iconst 0, 1) := by decide +kernel
theorem dX7_dancer_66 : decode cX7_dancer 66 = .ok (.invokevirtual 140, 3) := by decide +kernel
theorem dX7_dancer_69 : decode cX7_dancer 69 = .ok (.invokevirtual 130, 3) := by decide +kernel
theorem dX7_dancer_72 : decode cX7_dancer 72 = .ok (.ireturn, 1) := by decide +kernel
theorem dX7_dancer_73 : decode cX7_dancer 73 = .ok (.aload_n 0, 1) := by decide +kernel
theorem dX7_dancer_74 : decode cX7_dancer 74 = .ok (.aload_n 0, 1) := by decide +kernel
theorem dX7_dancer_75 : decode cX7_dancer 75 = .ok (.getfield 44, 3) := by decide +kernel
theorem dX7_dancer_78 : decode cX7_dancer 78 = .ok (.iload_n 1, 1) := by decide +kernel
theorem dX7_dancer_79 : decode cX7_dancer 79 = .ok (.invokevirtual 146, 3) := by decide +kernel
theorem dX7_dancer_82 : decode cX7_dancer 82 = .ok (.invokevirtual 130, 3) := by decide +kernel
theorem dX7_dancer_85 : decode cX7_dancer 85 = .ok (.ireturn, 1) := by decide +kernel
theorem dX7_dancer_86 : decode cX7_dancer 86 = .ok (.aload_n 0, 1) := by decide +kernel
theorem dX7_dancer_87 : decode cX7_dancer 87 = .ok (.aload_n 0, 1) := by decide +kernel
theorem dX7_dancer_88 : decode cX7_dancer 88 = .ok (.getfield 44, 3) := by decide +kernel
theorem dX7_dancer_91 : decode cX7_dancer 91 = .ok (.iload_n 1, 1) := by decide +kernel
theorem dX7_dancer_92 : decode cX7_dancer 92 = .ok (.invokevirtual 149, 3) := by decide +kernel
theorem dX7_dancer_95 : decode cX7_dancer 95 = .ok (.invokevirtual 130, 3) := by decide +kernel
theorem dX7_dancer_98 : decode cX7_dancer 98 = .ok (.ireturn, 1) := by decide +kernel
theorem dX7_dancer_99 : decode cX7_dancer 99 = .ok (.aload_n 0, 1) := by decide +kernel
theorem dX7_dancer_100 : decode cX7_dancer 100 = .ok (.aload_n 0, 1) := by decide +kernel
theorem dX7_dancer_101 : decode cX7_dancer 101 = .ok (.getfield 44, 3) := by decide +kernel
theorem dX7_dancer_104 : decode cX7_dancer 104 = .ok (.getfield 127, 3) := by decide +kernel
theorem dX7_dancer_107 : decode cX7_dancer 107 = .ok (.iload_n 1, 1) := by decide +kernel
theorem dX7_dancer_108 : decode cX7_dancer 108 = .ok (.iconst 1, 1) := by decide +kernel
theorem dX7_dancer_109 : decode cX7_dancer 109 = .ok (.invokevirtual 140, 3) := by decide +kernel
theorem dX7_dancer_112 : decode cX7_dancer 112 = .ok (.invokevirtual 130, 3) := by decide +kernel
theorem dX7_dancer_115 : decode cX7_dancer 115 = .ok (.ireturn, 1) := by decide +kernel
theorem dX7_dancer_116 : decode cX7_dancer 116 = .ok (.aload_n 0, 1) := by decide +kernel
theorem dX7_dancer_117 : decode cX7_dancer 117 = .ok (.aload_n 0, 1) := by decide +kernel
theorem dX7_dancer_118 : decode cX7_dancer 118 = .ok (.getfield 44, 3) := by decide +kernel
theorem dX7_dancer_121 : decode cX7_dancer 121 = .ok (.getfield 127, 3) := by decide +kernel
theorem dX7_dancer_124 : decode cX7_dancer 124 = .ok (.iload_n 1, 1) := by decide +kernel
theorem dX7_dancer_125 : decode cX7_dancer 125 = .ok (.iconst 2, 1) := by decide +kernel
theorem dX7_dancer_126 : decode cX7_dancer 126 = .ok (.invokevirtual 140, 3) := by decide +kernel
theorem dX7_dancer_129 : decode cX7_dancer 129 = .ok (.invokevirtual 130, 3) := by decide +kernel
theorem dX7_dancer_132 : decode cX7_dancer 132 = .ok (.ireturn, 1) := by decide +kernel
theorem dX7_dancer_133 : decode cX7_dancer 133 = .ok (.aload_n 0, 1) := by decide +kernel
theorem dX7_dancer_134 : decode cX7_dancer 134 = .ok (.aload_n 0, 1) := by decide +kernel
theorem dX7_dancer_135 : decode cX7_dancer 135 = .ok (.getfield 44, 3) := by decide +kernel
theorem dX7_dancer_138 : decode cX7_dancer 138 = .ok (.getfield 127, 3) := by decide +kernel
theorem dX7_dancer_141 : decode cX7_dancer 141 = .ok (.iload_n 1, 1) := by decide +kernel
theorem dX7_dancer_142 : decode cX7_dancer 142 = .ok (.iconst 3, 1) := by decide +kernel
theorem dX7_dancer_143 : decode cX7_dancer 143 = .ok (.invokevirtual 140, 3) := by decide +kernel
theorem dX7_dancer_146 : decode cX7_dancer 146 = .ok (.invokevirtual 130, 3) := by decide +kernel
theorem dX7_dancer_149 : decode cX7_dancer 149 = .ok (.ireturn, 1) := by decide +kernel
theorem dX7_dancer_150 : decode cX7_dancer 150 = .ok (.aload_n 0, 1) := by decide +kernel
theorem dX7_dancer_151 : decode cX7_dancer 151 = .ok (.aload_n 0, 1) := by decide +kernel
theorem dX7_dancer_152 : decode cX7_dancer 152 = .ok (.getfield 44, 3) := by decide +kernel
theorem dX7_dancer_155 : decode cX7_dancer 155 = .ok (.getfield 127, 3) := by decide +kernel
theorem dX7_dancer_158 : decode cX7_dancer 158 = .ok (.iload_n 1, 1) := by decide +kernel
theorem dX7_dancer_159 : decode cX7_dancer 159 = .ok (.iconst 4, 1) := by decide +kernel
theorem dX7_dancer_160 : decode cX7_dancer 160 = .ok (.invokevirtual 140, 3) := by decide +kernel
theorem dX7_dancer_163 : decode cX7_dancer 163 = .ok (.invokevirtual 130, 3) := by decide +kernel
theorem dX7_dancer_166 : decode cX7_dancer 166 = .ok (.ireturn, 1) := by decide +kernel
theorem dX7_dancer_167 : decode cX7_dancer 167 = .ok (.aload_n 0, 1) := by decide +kernel
theorem dX7_dancer_168 : decode cX7_dancer 168 = .ok (.iconst 1, 1) := by decide +kernel
theorem dX7_dancer_169 : decode cX7_dancer 169 = .ok (.invokevirtual 99, 3) := by decide +kernel
theorem dX7_dancer_172 : decode cX7_dancer 172 = .ok (.ireturn, 1) := by decide +kernel
theorem dX7_stands_0 : decode cX7_stands 0 = .ok (.aload_n 0, 1) := by decide +kernel
theorem dX7_stands_1 : decode cX7_stands 1 = .ok (.iload_n 1, 1) := by decide +kernel
theorem dX7_stands_2 : decode cX7_stands 2 = .ok (.iload_n 2, 1) := by decide +kernel
theorem dX7_stands_3 : decode cX7_stands 3 = .ok (.invokevirtual 133, 3) := by decide +kernel
theorem dX7_stands_6 : decode cX7_stands 6 = .ok (.istore_n 3, 1) := by decide +kernel
theorem dX7_stands_7 : decode cX7_stands 7 = .ok (.iload_n 3, 1) := by decide +kernel
theorem dX7_stands_8 : decode cX7_stands 8 = .ok (.ifCond .ge 9, 3) := by decide +kernel
theorem dX7_stands_11 : decode cX7_stands 11 = .ok (.aload_n 0, 1) := by decide +kernel
theorem dX7_stands_12 : decode cX7_stands 12 = .ok (.iconst 1, 1) := by decide +kernel
theorem dX7_stands_13 : decode cX7_stands 13 = .ok (.invokevirtual 99, 3) := by decide +kernel
theorem dX7_stands_16 : decode cX7_stands 16 = .ok (.ireturn, 1) := by decide +kernel
theorem dX7_stands_17 : decode cX7_stands 17 = .ok (.iconst 0, 1) := by decide +kernel
theorem dX7_stands_18 : decode cX7_stands 18 = .ok (.istore 4, 2) := by decide +kernel
theorem dX7_stands_20 : decode cX7_stands 20 = .ok (.iload 4, 2) := by decide +kernel
theorem dX7_stands_22 : decode cX7_stands 22 = .ok (.aload_n 0, 1) := by decide +kernel
theorem dX7_stands_23 : decode cX7_stands 23 = .ok (.getfield 44, 3) := by decide +kernel
theorem dX7_stands_26 : decode cX7_stands 26 = .ok (.getfield 127, 3) := by decide +kernel
theorem dX7_stands_29 : decode cX7_stands 29 = .ok (.invokevirtual 92, 3) := by decide +kernel
theorem dX7_stands_32 : decode cX7_stands 32 = .ok (.if_icmp .ge 40, 3) := by decide +kernel
theorem dX7_stands_35 : decode cX7_stands 35 = .ok (.aload_n 0, 1) := by decide +kernel
theorem dX7_stands_36 : decode cX7_stands 36 = .ok (.getfield 44, 3) := by decide +kernel
theorem dX7_stands_39 : decode cX7_stands 39 = .ok (.iload 4, 2) := by decide +kernel
theorem dX7_stands_41 : decode cX7_stands 41 = .ok (.invokevirtual 146, 3) := by decide +kernel
theorem dX7_stands_44 : decode cX7_stands 44 = .ok (.iload_n 3, 1) := by decide +kernel
theorem dX7_stands_45 : decode cX7_stands 45 = .ok (.if_icmp .ne 21, 3) := by decide +kernel
theorem dX7_stands_48 : decode cX7_stands 48 = .ok (.aload_n 0, 1) := by decide +kernel
theorem dX7_stands_49 : decode cX7_stands 49 = .ok (.aload_n 0, 1) := by decide +kernel
theorem dX7_stands_50 : decode cX7_stands 50 = .ok (.getfield 44, 3) := by decide +kernel
theorem dX7_stands_53 : decode cX7_stands 53 = .ok (.getfield 127, 3) := by decide +kernel
theorem dX7_stands_56 : decode cX7_stands 56 = .ok (.iload 4, 2) := by decide +kernel
theorem dX7_stands_58 : decode cX7_stands 58 = .ok (.iconst 0, 1) := by decide +kernel
theorem dX7_stands_59 : decode cX7_stands 59 = .ok (.invokevirtual 140, 3) := by decide +kernel
theorem dX7_stands_62 : decode cX7_stands 62 = .ok (.invokevirtual 130, 3) := by decide +kernel
theorem dX7_stands_65 : decode cX7_stands 65 = .ok (.ireturn, 1) := by decide +kernel
theorem dX7_stands_66 : decode cX7_stands 66 = .ok (.iinc 4 1, 3) := by decide +kernel
theorem dX7_stands_69 : decode cX7_stands 69 = .ok (.goto (-49), 3) := by decide +kernel
theorem dX7_stands_72 : decode cX7_stands 72 = .ok (.aload_n 0, 1) := by decide +kernel
theorem dX7_stands_73 : decode cX7_stands 73 = .ok (.bipush (-2), 2) := by decide +kernel
theorem dX7_stands_75 : decode cX7_stands 75 = .ok (.invokevirtual 130, 3) := by decide +kernel
theorem dX7_stands_78 : decode cX7_stands 78 = .ok (.ireturn, 1) := by decide +kernel
theorem dX7_way_0 : decode cX7_way 0 = .ok (.aload_n 0, 1) := by decide +kernel
theorem dX7_way_1 : decode cX7_way 1 = .ok (.getfield 78, 3) := by decide +kernel
theorem dX7_way_4 : decode cX7_way 4 = .ok (.ifCond .eq 25, 3) := by decide +kernel
theorem dX7_way_7 : decode cX7_way 7 = .ok (.iload_n 1, 1) := by decide +kernel
theorem dX7_way_8 : decode cX7_way 8 = .ok (.ifCond .lt 21, 3) := by decide +kernel
theorem dX7_way_11 : decode cX7_way 11 = .ok (.iload_n 1, 1) := by decide +kernel
theorem dX7_way_12 : decode cX7_way 12 = .ok (.aload_n 0, 1) := by decide +kernel
theorem dX7_way_13 : decode cX7_way 13 = .ok (.getfield 44, 3) := by decide +kernel
theorem dX7_way_16 : decode cX7_way 16 = .ok (.getfield 152, 3) := by decide +kernel
theorem dX7_way_19 : decode cX7_way 19 = .ok (.invokevirtual 92, 3) := by decide +kernel
theorem dX7_way_22 : decode cX7_way 22 = .ok (.if_icmp .ge 7, 3) := by decide +kernel
theorem dX7_way_25 : decode cX7_way 25 = .ok (.iconst 1, 1) := by decide +kernel
theorem dX7_way_26 : decode cX7_way 26 = .ok (.goto 4, 3) := by decide +kernel
theorem dX7_way_29 : decode cX7_way 29 = .ok (.iconst 0, 1) := by decide +kernel
theorem dX7_way_30 : decode cX7_way 30 = .ok (.istore_n 2, 1) := by decide +kernel
theorem dX7_way_31 : decode cX7_way 31 = .ok (.iload_n 2, 1) := by decide +kernel
theorem dX7_way_32 : decode cX7_way 32 = .ok (.ifCond .eq 22, 3) := by decide +kernel
theorem dX7_way_35 : decode cX7_way 35 = .ok (.aload_n 0, 1) := by decide +kernel
theorem dX7_way_36 : decode cX7_way 36 = .ok (.aload_n 0, 1) := by decide +kernel
theorem dX7_way_37 : decode cX7_way 37 = .ok (.getfield 44, 3) := by decide +kernel
theorem dX7_way_40 : decode cX7_way 40 = .ok (.getfield 152, 3) := by decide +kernel
theorem dX7_way_43 : decode cX7_way 43 = .ok (.iload_n 1, 1) := by decide +kernel
theorem dX7_way_44 : decode cX7_way 44 = .ok (.iconst 0, 1) := by decide +kernel
theorem dX7_way_45 : decode cX7_way 45 = .ok (.invokevirtual 140, 3) := by decide +kernel
theorem dX7_way_48 : decode cX7_way 48 = .ok (.invokevirtual 130, 3) := by decide +kernel
theorem dX7_way_51 : decode cX7_way 51 = .ok (.goto 8, 3) := by decide +kernel
theorem dX7_way_54 : decode cX7_way 54 = .ok (.aload_n 0, 1) := by decide +kernel
theorem dX7_way_55 : decode cX7_way 55 = .ok (.iconst 1, 1) := by decide +kernel
theorem dX7_way_56 : decode cX7_way 56 = .ok (.invokevirtual 99, 3) := by decide +kernel
theorem dX7_way_59 : decode cX7_way 59 = .ok (.ireturn, 1) := by decide +kernel
theorem dX7_length_0 : decode cX7_length 0 = .ok (.aload_n 0, 1) := by decide +kernel
theorem dX7_length_1 : decode cX7_length 1 = .ok (.getfield 78, 3) := by decide +kernel
theorem dX7_length_4 : decode cX7_length 4 = .ok (.ifCond .eq 20, 3) := by decide +kernel
theorem dX7_length_7 : decode cX7_length 7 = .ok (.aload_n 0, 1) := by decide +kernel
theorem dX7_length_8 : decode cX7_length 8 = .ok (.aload_n 0, 1) := by decide +kernel
theorem dX7_length_9 : decode cX7_length 9 = .ok (.getfield 44, 3) := by decide +kernel
theorem dX7_length_12 : decode cX7_length 12 = .ok (.getfield 152, 3) := by decide +kernel
theorem dX7_length_15 : decode cX7_length 15 = .ok (.invokevirtual 92, 3) := by decide +kernel
theorem dX7_length_18 : decode cX7_length 18 = .ok (.invokevirtual 130, 3) := by decide +kernel
theorem dX7_length_21 : decode cX7_length 21 = .ok (.goto 8, 3) := by decide +kernel
theorem dX7_length_24 : decode cX7_length 24 = .ok (.aload_n 0, 1) := by decide +kernel
theorem dX7_length_25 : decode cX7_length 25 = .ok (.iconst 1, 1) := by decide +kernel
theorem dX7_length_26 : decode cX7_length 26 = .ok (.invokevirtual 99, 3) := by decide +kernel
theorem dX7_length_29 : decode cX7_length 29 = .ok (.ireturn, 1) := by decide +kernel
theorem dX7_corners_0 : decode cX7_corners 0 = .ok (.aload_n 0, 1) := by decide +kernel
theorem dX7_corners_1 : decode cX7_corners 1 = .ok (.getfield 78, 3) := by decide +kernel
theorem dX7_corners_4 : decode cX7_corners 4 = .ok (.ifCond .ne 9, 3) := by decide +kernel
theorem dX7_corners_7 : decode cX7_corners 7 = .ok (.aload_n 0, 1) := by decide +kernel
theorem dX7_corners_8 : decode cX7_corners 8 = .ok (.iconst 1, 1) := by decide +kernel
theorem dX7_corners_9 : decode cX7_corners 9 = .ok (.invokevirtual 99, 3) := by decide +kernel
theorem dX7_corners_12 : decode cX7_corners 12 = .ok (.ireturn, 1) := by decide +kernel
theorem dX7_corners_13 : decode cX7_corners 13 = .ok (.iconst 0, 1) := by decide +kernel
theorem dX7_corners_14 : decode cX7_corners 14 = .ok (.istore_n 1, 1) := by decide +kernel
theorem dX7_corners_15 : decode cX7_corners 15 = .ok (.aload_n 0, 1) := by decide +kernel
theorem dX7_corners_16 : decode cX7_corners 16 = .ok (.getfield 44, 3) := by decide +kernel
theorem dX7_corners_19 : decode cX7_corners 19 = .ok (.getfield 127, 3) := by decide +kernel
theorem dX7_corners_22 : decode cX7_corners 22 = .ok (.iconst 0, 1) := by decide +kernel
theorem dX7_corners_23 : decode cX7_corners 23 = .ok (.iconst 1, 1) := by decide +kernel
theorem dX7_corners_24 : decode cX7_corners 24 = .ok (.invokevirtual 140, 3) := by decide +kernel
theorem dX7_corners_27 : decode cX7_corners 27 = .ok (.istore_n 2, 1) := by decide +kernel
theorem dX7_corners_28 : decode cX7_corners 28 = .ok (.aload_n 0, 1) := by decide +kernel
theorem dX7_corners_29 : decode cX7_corners 29 = .ok (.getfield 44, 3) := by decide +kernel
theorem dX7_corners_32 : decode cX7_corners 32 = .ok (.getfield 127, 3) := by decide +kernel
theorem dX7_corners_35 : decode cX7_corners 35 = .ok (.aload_n 0, 1) := by decide +kernel
theorem dX7_corners_36 : decode cX7_corners 36 = .ok (.getfield 44, 3) := by decide +kernel
theorem dX7_corners_39 : decode cX7_corners 39 = .ok (.getfield 127, 3) := by decide +kernel
theorem dX7_corners_42 : decode cX7_corners 42 = .ok (.invokevirtual 92, 3) := by decide +kernel
theorem dX7_corners_45 : decode cX7_corners 45 = .ok (.iconst 1, 1) := by decide +kernel
theorem dX7_corners_46 : decode cX7_corners 46 = .ok (.isub, 1) := by decide +kernel
theorem dX7_corners_47 : decode cX7_corners 47 = .ok (.iconst 1, 1) := by decide +kernel
theorem dX7_corners_48 : decode cX7_corners 48 = .ok (.invokevirtual 140, 3) := by decide +kernel
theorem dX7_corners_51 : decode cX7_corners 51 = .ok (.iconst 1, 1) := by decide +kernel
theorem dX7_corners_52 : decode cX7_corners 52 = .ok (.iadd, 1) := by decide +kernel
theorem dX7_corners_53 : decode cX7_corners 53 = .ok (.istore_n 3, 1) := by decide +kernel
theorem dX7_corners_54 : decode cX7_corners 54 = .ok (.iload_n 3, 1) := by decide +kernel
theorem dX7_corners_55 : decode cX7_corners 55 = .ok (.iload_n 2, 1) := by decide +kernel
theorem dX7_corners_56 : decode cX7_corners 56 = .ok (.if_icmp .ge 28, 3) := by decide +kernel
theorem dX7_corners_59 : decode cX7_corners 59 = .ok (.iload_n 1, 1) := by decide +kernel
theorem dX7_corners_60 : decode cX7_corners 60 = .ok (.aload_n 0, 1) := by decide +kernel
theorem dX7_corners_61 : decode cX7_corners 61 = .ok (.getfield 44, 3) := by decide +kernel
theorem dX7_corners_64 : decode cX7_corners 64 = .ok (.iload_n 3, 1) := by decide +kernel
theorem dX7_corners_65 : decode cX7_corners 65 = .ok (.invokevirtual 155, 3) := by decide +kernel
theorem dX7_corners_68 : decode cX7_corners 68 = .ok (.ifCond .eq 7, 3) := by decide +kernel
theorem dX7_corners_71 : decode cX7_corners 71 = .ok (.iconst 1, 1) := by decide +kernel
theorem dX7_corners_72 : decode cX7_corners 72 = .ok (.goto 4, 3) := by decide +kernel
theorem dX7_corners_75 : decode cX7_corners 75 = .ok (.iconst 0, 1) := by decide +kernel
theorem dX7_corners_76 : decode cX7_corners 76 = .ok (.iadd, 1) := by decide +kernel
theorem dX7_corners_77 : decode cX7_corners 77 = .ok (.istore_n 1, 1) := by decide +kernel
theorem dX7_corners_78 : decode cX7_corners 78 = .ok (.iinc 3 1, 3) := by decide +kernel
theorem dX7_corners_81 : decode cX7_corners 81 = .ok (.goto (-27), 3) := by decide +kernel
theorem dX7_corners_84 : decode cX7_corners 84 = .ok (.aload_n 0, 1) := by decide +kernel
theorem dX7_corners_85 : decode cX7_corners 85 = .ok (.iload_n 1, 1) := by decide +kernel
theorem dX7_corners_86 : decode cX7_corners 86 = .ok (.invokevirtual 130, 3) := by decide +kernel
theorem dX7_corners_89 : decode cX7_corners 89 = .ok (.ireturn, 1) := by decide +kernel
theorem dX7_sits_0 : decode cX7_sits 0 = .ok (.aload_n 0, 1) := by decide +kernel
theorem dX7_sits_1 : decode cX7_sits 1 = .ok (.iload_n 1, 1) := by decide +kernel
theorem dX7_sits_2 : decode cX7_sits 2 = .ok (.invokevirtual 158, 3) := by decide +kernel
theorem dX7_sits_5 : decode cX7_sits 5 = .ok (.ifCond .eq 22, 3) := by decide +kernel
theorem dX7_sits_8 : decode cX7_sits 8 = .ok (.aload_n 0, 1) := by decide +kernel
theorem dX7_sits_9 : decode cX7_sits 9 = .ok (.aload_n 0, 1) := by decide +kernel
theorem dX7_sits_10 : decode cX7_sits 10 = .ok (.getfield 44, 3) := by decide +kernel
theorem dX7_sits_13 : decode cX7_sits 13 = .ok (.getfield 161, 3) := by decide +kernel
theorem dX7_sits_16 : decode cX7_sits 16 = .ok (.iload_n 1, 1) := by decide +kernel
theorem dX7_sits_17 : decode cX7_sits 17 = .ok (.iconst 0, 1) := by decide +kernel
theorem dX7_sits_18 : decode cX7_sits 18 = .ok (.invokevirtual 140, 3) := by decide +kernel
theorem dX7_sits_21 : decode cX7_sits 21 = .ok (.invokevirtual 130, 3) := by decide +kernel
theorem dX7_sits_24 : decode cX7_sits 24 = .ok (.goto 8, 3) := by decide +kernel
theorem dX7_sits_27 : decode cX7_sits 27 = .ok (.aload_n 0, 1) := by decide +kernel
theorem dX7_sits_28 : decode cX7_sits 28 = .ok (.iconst 1, 1) := by decide +kernel
theorem dX7_sits_29 : decode cX7_sits 29 = .ok (.invokevirtual 99, 3) := by decide +kernel
theorem dX7_sits_32 : decode cX7_sits 32 = .ok (.ireturn, 1) := by decide +kernel
theorem dX7_over_0 : decode cX7_over 0 = .ok (.aload_n 0, 1) := by decide +kernel
theorem dX7_over_1 : decode cX7_over 1 = .ok (.getfield 78, 3) := by decide +kernel
theorem dX7_over_4 : decode cX7_over 4 = .ok (.ifCond .eq 17, 3) := by decide +kernel
theorem dX7_over_7 : decode cX7_over 7 = .ok (.aload_n 0, 1) := by decide +kernel
theorem dX7_over_8 : decode cX7_over 8 = .ok (.aload_n 0, 1) := by decide +kernel
theorem dX7_over_9 : decode cX7_over 9 = .ok (.getfield 44, 3) := by decide +kernel
theorem dX7_over_12 : decode cX7_over 12 = .ok (.getfield 164, 3) := by decide +kernel
theorem dX7_over_15 : decode cX7_over 15 = .ok (.invokevirtual 130, 3) := by decide +kernel
theorem dX7_over_18 : decode cX7_over 18 = .ok (.goto 8, 3) := by decide +kernel
theorem dX7_over_21 : decode cX7_over 21 = .ok (.aload_n 0, 1) := by decide +kernel
theorem dX7_over_22 : decode cX7_over 22 = .ok (.iconst 1, 1) := by decide +kernel
theorem dX7_over_23 : decode cX7_over 23 = .ok (.invokevirtual 99, 3) := by decide +kernel
theorem dX7_over_26 : decode cX7_over 26 = .ok (.ireturn, 1) := by decide +kernel
theorem dX7_manyIn_0 : decode cX7_manyIn 0 = .ok (.aload_n 0, 1) := by decide +kernel
theorem dX7_manyIn_1 : decode cX7_manyIn 1 = .ok (.iload_n 1, 1) := by decide +kernel
theorem dX7_manyIn_2 : decode cX7_manyIn 2 = .ok (.invokevirtual 167, 3) := by decide +kernel
theorem dX7_manyIn_5 : decode cX7_manyIn 5 = .ok (.ifCond .eq 23, 3) := by decide +kernel
theorem dX7_manyIn_8 : decode cX7_manyIn 8 = .ok (.aload_n 0, 1) := by decide +kernel
theorem dX7_manyIn_9 : decode cX7_manyIn 9 = .ok (.aload_n 0, 1) := by decide +kernel
theorem dX7_manyIn_10 : decode cX7_manyIn 10 = .ok (.getfield 52, 3) := by decide +kernel
theorem dX7_manyIn_13 : decode cX7_manyIn 13 = .ok (.getfield 170, 3) := by decide +kernel
theorem dX7_manyIn_16 : decode cX7_manyIn 16 = .ok (.getfield 127, 3) := by decide +kernel
theorem dX7_manyIn_19 : decode cX7_manyIn 19 = .ok (.invokevirtual 92, 3) := by decide +kernel
theorem dX7_manyIn_22 : decode cX7_manyIn 22 = .ok (.invokevirtual 130, 3) := by decide +kernel
theorem dX7_manyIn_25 : decode cX7_manyIn 25 = .ok (.goto 4, 3) := by decide +kernel
theorem dX7_manyIn_28 : decode cX7_manyIn 28 = .ok (.iconst (-1), 1) := by decide +kernel
theorem dX7_manyIn_29 : decode cX7_manyIn 29 = .ok (.ireturn, 1) := by decide +kernel
theorem dX7_at_0 : decode cX7_at 0 = .ok (.iload_n 1, 1) := by decide +kernel
theorem dX7_at_1 : decode cX7_at 1 = .ok (.ifCond .ge 9, 3) := by decide +kernel
theorem dX7_at_4 : decode cX7_at 4 = .ok (.aload_n 0, 1) := by decide +kernel
theorem dX7_at_5 : decode cX7_at 5 = .ok (.iconst 1, 1) := by decide +kernel
theorem dX7_at_6 : decode cX7_at 6 = .ok (.invokevirtual 99, 3) := by decide +kernel
theorem dX7_at_9 : decode cX7_at 9 = .ok (.ireturn, 1) := by decide +kernel
theorem dX7_at_10 : decode cX7_at 10 = .ok (.aload_n 0, 1) := by decide +kernel
theorem dX7_at_11 : decode cX7_at 11 = .ok (.iload_n 2, 1) := by decide +kernel
theorem dX7_at_12 : decode cX7_at 12 = .ok (.invokevirtual 167, 3) := by decide +kernel
theorem dX7_at_15 : decode cX7_at 15 = .ok (.ifCond .ne 5, 3) := by decide +kernel
theorem dX7_at_18 : decode cX7_at 18 = .ok (.iconst (-1), 1) := by decide +kernel
theorem dX7_at_19 : decode cX7_at 19 = .ok (.ireturn, 1) := by decide +kernel
theorem dX7_at_20 : decode cX7_at 20 = .ok (.aload_n 0, 1) := by decide +kernel
theorem dX7_at_21 : decode cX7_at 21 = .ok (.getfield 52, 3) := by decide +kernel
theorem dX7_at_24 : decode cX7_at 24 = .ok (.getfield 170, 3) := by decide +kernel
theorem dX7_at_27 : decode cX7_at 27 = .ok (.iload_n 1, 1) := by decide +kernel
theorem dX7_at_28 : decode cX7_at 28 = .ok (.invokevirtual 173, 3) := by decide +kernel
theorem dX7_at_31 : decode cX7_at 31 = .ok (.istore_n 3, 1) := by decide +kernel
theorem dX7_at_32 : decode cX7_at 32 = .ok (.aload_n 0, 1) := by decide +kernel
theorem dX7_at_33 : decode cX7_at 33 = .ok (.iload_n 3, 1) := by decide +kernel
theorem dX7_at_34 : decode cX7_at 34 = .ok (.ifCond .ge 8, 3) := by decide +kernel
theorem dX7_at_37 : decode cX7_at 37 = .ok (.bipush (-2), 2) := by decide +kernel
theorem dX7_at_39 : decode cX7_at 39 = .ok (.goto 14, 3) := by decide +kernel
theorem dX7_at_42 : decode cX7_at 42 = .ok (.aload_n 0, 1) := by decide +kernel
theorem dX7_at_43 : decode cX7_at 43 = .ok (.getfield 52, 3) := by decide +kernel
theorem dX7_at_46 : decode cX7_at 46 = .ok (.getfield 170, 3) := by decide +kernel
theorem dX7_at_49 : decode cX7_at 49 = .ok (.iload_n 3, 1) := by decide +kernel
theorem dX7_at_50 : decode cX7_at 50 = .ok (.invokevirtual 146, 3) := by decide +kernel
theorem dX7_at_53 : decode cX7_at 53 = .ok (.invokevirtual 130, 3) := by decide +kernel
theorem dX7_at_56 : decode cX7_at 56 = .ok (.ireturn, 1) := by decide +kernel
theorem dX7_ran_0 : decode cX7_ran 0 = .ok (.iload_n 1, 1) := by decide +kernel
theorem dX7_ran_1 : decode cX7_ran 1 = .ok (.ifCond .ge 9, 3) := by decide +kernel
theorem dX7_ran_4 : decode cX7_ran 4 = .ok (.aload_n 0, 1) := by decide +kernel
theorem dX7_ran_5 : decode cX7_ran 5 = .ok (.iconst 1, 1) := by decide +kernel
theorem dX7_ran_6 : decode cX7_ran 6 = .ok (.invokevirtual 99, 3) := by decide +kernel
theorem dX7_ran_9 : decode cX7_ran 9 = .ok (.ireturn, 1) := by decide +kernel
theorem dX7_ran_10 : decode cX7_ran 10 = .ok (.aload_n 0, 1) := by decide +kernel
theorem dX7_ran_11 : decode cX7_ran 11 = .ok (.iload_n 2, 1) := by decide +kernel
theorem dX7_ran_12 : decode cX7_ran 12 = .ok (.invokevirtual 167, 3) := by decide +kernel
theorem dX7_ran_15 : decode cX7_ran 15 = .ok (.ifCond .ne 5, 3) := by decide +kernel
theorem dX7_ran_18 : decode cX7_ran 18 = .ok (.iconst (-1), 1) := by decide +kernel
theorem dX7_ran_19 : decode cX7_ran 19 = .ok (.ireturn, 1) := by decide +kernel
theorem dX7_ran_20 : decode cX7_ran 20 = .ok (.aload_n 0, 1) := by decide +kernel
theorem dX7_ran_21 : decode cX7_ran 21 = .ok (.getfield 52, 3) := by decide +kernel
theorem dX7_ran_24 : decode cX7_ran 24 = .ok (.getfield 170, 3) := by decide +kernel
theorem dX7_ran_27 : decode cX7_ran 27 = .ok (.iload_n 1, 1) := by decide +kernel
theorem dX7_ran_28 : decode cX7_ran 28 = .ok (.invokevirtual 173, 3) := by decide +kernel
theorem dX7_ran_31 : decode cX7_ran 31 = .ok (.ifCond .lt 7, 3) := by decide +kernel
theorem dX7_ran_34 : decode cX7_ran 34 = .ok (.iconst 1, 1) := by decide +kernel
theorem dX7_ran_35 : decode cX7_ran 35 = .ok (.goto 4, 3) := by decide +kernel
theorem dX7_ran_38 : decode cX7_ran 38 = .ok (.iconst 0, 1) := by decide +kernel
theorem dX7_ran_39 : decode cX7_ran 39 = .ok (.istore_n 3, 1) := by decide +kernel
theorem dX7_ran_40 : decode cX7_ran 40 = .ok (.aload_n 0, 1) := by decide +kernel
theorem dX7_ran_41 : decode cX7_ran 41 = .ok (.iload_n 3, 1) := by decide +kernel
theorem dX7_ran_42 : decode cX7_ran 42 = .ok (.ifCond .eq 18, 3) := by decide +kernel
theorem dX7_ran_45 : decode cX7_ran 45 = .ok (.aload_n 0, 1) := by decide +kernel
theorem dX7_ran_46 : decode cX7_ran 46 = .ok (.getfield 52, 3) := by decide +kernel
theorem dX7_ran_49 : decode cX7_ran 49 = .ok (.getfield 176, 3) := by decide +kernel
theorem dX7_ran_52 : decode cX7_ran 52 = .ok (.iload_n 1, 1) := by decide +kernel
theorem dX7_ran_53 : decode cX7_ran 53 = .ok (.iconst 0, 1) := by decide +kernel
theorem dX7_ran_54 : decode cX7_ran 54 = .ok (.invokevirtual 140, 3) := by decide +kernel
theorem dX7_ran_57 : decode cX7_ran 57 = .ok (.goto 4, 3) := by decide +kernel
theorem dX7_ran_60 : decode cX7_ran 60 = .ok (.iconst 0, 1) := by decide +kernel
theorem dX7_ran_61 : decode cX7_ran 61 = .ok (.invokevirtual 130, 3) := by decide +kernel
theorem dX7_ran_64 : decode cX7_ran 64 = .ok (.ireturn, 1) := by decide +kernel
theorem dX7_runner_0 : decode cX7_runner 0 = .ok (.aload_n 0, 1) := by decide +kernel
theorem dX7_runner_1 : decode cX7_runner 1 = .ok (.iload_n 1, 1) := by decide +kernel
theorem dX7_runner_2 : decode cX7_runner 2 = .ok (.invokevirtual 167, 3) := by decide +kernel
theorem dX7_runner_5 : decode cX7_runner 5 = .ok (.ifCond .ne 5, 3) := by decide +kernel
theorem dX7_runner_8 : decode cX7_runner 8 = .ok (.iconst (-1), 1) := by decide +kernel
theorem dX7_runner_9 : decode cX7_runner 9 = .ok (.ireturn, 1) := by decide +kernel
theorem dX7_runner_10 : decode cX7_runner 10 = .ok (.iconst 0, 1) := by decide +kernel
theorem dX7_runner_11 : decode cX7_runner 11 = .ok (.istore_n 2, 1) := by decide +kernel
theorem dX7_runner_12 : decode cX7_runner 12 = .ok (.iconst 1, 1) := by decide +kernel
theorem dX7_runner_13 : decode cX7_runner 13 = .ok (.istore_n 3, 1) := by decide +kernel
theorem dX7_runner_14 : decode cX7_runner 14 = .ok (.iload_n 3, 1) := by decide +kernel
theorem dX7_runner_15 : decode cX7_runner 15 = .ok (.aload_n 0, 1) := by decide +kernel
theorem dX7_runner_16 : decode cX7_runner 16 = .ok (.getfield 52, 3) := by decide +kernel
theorem dX7_runner_19 : decode cX7_runner 19 = .ok (.getfield 170, 3) := by decide +kernel
theorem dX7_runner_22 : decode cX7_runner 22 = .ok (.getfield 127, 3) := by decide +kernel
theorem dX7_runner_25 : decode cX7_runner 25 = .ok (.invokevirtual 92, 3) := by decide +kernel
theorem dX7_runner_28 : decode cX7_runner 28 = .ok (.if_icmp .ge 30, 3) := by decide +kernel
theorem dX7_runner_31 : decode cX7_runner 31 = .ok (.aload_n 0, 1) := by decide +kernel
theorem dX7_runner_32 : decode cX7_runner 32 = .ok (.getfield 52, 3) := by decide +kernel
theorem dX7_runner_35 : decode cX7_runner 35 = .ok (.iload_n 3, 1) := by decide +kernel
theorem dX7_runner_36 : decode cX7_runner 36 = .ok (.invokevirtual 179, 3) := by decide +kernel
theorem dX7_runner_39 : decode cX7_runner 39 = .ok (.aload_n 0, 1) := by decide +kernel
theorem dX7_runner_40 : decode cX7_runner 40 = .ok (.getfield 52, 3) := by decide +kernel
theorem dX7_runner_43 : decode cX7_runner 43 = .ok (.iload_n 2, 1) := by decide +kernel
theorem dX7_runner_44 : decode cX7_runner 44 = .ok (.invokevirtual 179, 3) := by decide +kernel
theorem dX7_runner_47 : decode cX7_runner 47 = .ok (.if_icmp .le 5, 3) := by decide +kernel
theorem dX7_runner_50 : decode cX7_runner 50 = .ok (.iload_n 3, 1) := by decide +kernel
theorem dX7_runner_51 : decode cX7_runner 51 = .ok (.istore_n 2, 1) := by decide +kernel
theorem dX7_runner_52 : decode cX7_runner 52 = .ok (.iinc 3 1, 3) := by decide +kernel
theorem dX7_runner_55 : decode cX7_runner 55 = .ok (.goto (-41), 3) := by decide +kernel
theorem dX7_runner_58 : decode cX7_runner 58 = .ok (.aload_n 0, 1) := by decide +kernel
theorem dX7_runner_59 : decode cX7_runner 59 = .ok (.aload_n 0, 1) := by decide +kernel
theorem dX7_runner_60 : decode cX7_runner 60 = .ok (.getfield 52, 3) := by decide +kernel
theorem dX7_runner_63 : decode cX7_runner 63 = .ok (.getfield 170, 3) := by decide +kernel
theorem dX7_runner_66 : decode cX7_runner 66 = .ok (.getfield 127, 3) := by decide +kernel
theorem dX7_runner_69 : decode cX7_runner 69 = .ok (.iload_n 2, 1) := by decide +kernel
theorem dX7_runner_70 : decode cX7_runner 70 = .ok (.iconst 0, 1) := by decide +kernel
theorem dX7_runner_71 : decode cX7_runner 71 = .ok (.invokevirtual 140, 3) := by decide +kernel
theorem dX7_runner_74 : decode cX7_runner 74 = .ok (.invokevirtual 130, 3) := by decide +kernel
theorem dX7_runner_77 : decode cX7_runner 77 = .ok (.ireturn, 1) := by decide +kernel
theorem dX7_widest_0 : decode cX7_widest 0 = .ok (.aload_n 0, 1) := by decide +kernel
theorem dX7_widest_1 : decode cX7_widest 1 = .ok (.iload_n 1, 1) := by decide +kernel
theorem dX7_widest_2 : decode cX7_widest 2 = .ok (.invokevirtual 167, 3) := by decide +kernel
theorem dX7_widest_5 : decode cX7_widest 5 = .ok (.ifCond .ne 5, 3) := by decide +kernel
theorem dX7_widest_8 : decode cX7_widest 8 = .ok (.iconst (-1), 1) := by decide +kernel
theorem dX7_widest_9 : decode cX7_widest 9 = .ok (.ireturn, 1) := by decide +kernel
theorem dX7_widest_10 : decode cX7_widest 10 = .ok (.bipush (-2), 2) := by decide +kernel
theorem dX7_widest_12 : decode cX7_widest 12 = .ok (.istore_n 2, 1) := by decide +kernel
theorem dX7_widest_13 : decode cX7_widest 13 = .ok (.iconst 1, 1) := by decide +kernel
theorem dX7_widest_14 : decode cX7_widest 14 = .ok (.istore_n 3, 1) := by decide +kernel
theorem dX7_widest_15 : decode cX7_widest 15 = .ok (.iload_n 3, 1) := by decide +kernel
theorem dX7_widest_16 : decode cX7_widest 16 = .ok (.aload_n 0, 1) := by decide +kernel
theorem dX7_widest_17 : decode cX7_widest 17 = .ok (.getfield 52, 3) := by decide +kernel
theorem dX7_widest_20 : decode cX7_widest 20 = .ok (.getfield 170, 3) := by decide +kernel
theorem dX7_widest_23 : decode cX7_widest 23 = .ok (.getfield 127, 3) := by decide +kernel
theorem dX7_widest_26 : decode cX7_widest 26 = .ok (.invokevirtual 92, 3) := by decide +kernel
theorem dX7_widest_29 : decode cX7_widest 29 = .ok (.if_icmp .ge 25, 3) := by decide +kernel
theorem dX7_widest_32 : decode cX7_widest 32 = .ok (.iload_n 2, 1) := by decide +kernel
theorem dX7_widest_33 : decode cX7_widest 33 = .ok (.aload_n 0, 1) := by decide +kernel
theorem dX7_widest_34 : decode cX7_widest 34 = .ok (.getfield 52, 3) := by decide +kernel
theorem dX7_widest_37 : decode cX7_widest 37 = .ok (.getfield 170, 3) := by decide +kernel
theorem dX7_widest_40 : decode cX7_widest 40 = .ok (.iload_n 3, 1) := by decide +kernel
theorem dX7_widest_41 : decode cX7_widest 41 = .ok (.invokevirtual 149, 3) := by decide +kernel
theorem dX7_widest_44 : decode cX7_widest 44 = .ok (.invokestatic 182, 3) := by decide +kernel
theorem dX7_widest_47 : decode cX7_widest 47 = .ok (.istore_n 2, 1) := by decide +kernel
theorem dX7_widest_48 : decode cX7_widest 48 = .ok (.iinc 3 1, 3) := by decide +kernel
theorem dX7_widest_51 : decode cX7_widest 51 = .ok (.goto (-36), 3) := by decide +kernel
theorem dX7_widest_54 : decode cX7_widest 54 = .ok (.aload_n 0, 1) := by decide +kernel
theorem dX7_widest_55 : decode cX7_widest 55 = .ok (.iload_n 2, 1) := by decide +kernel
theorem dX7_widest_56 : decode cX7_widest 56 = .ok (.invokevirtual 130, 3) := by decide +kernel
theorem dX7_widest_59 : decode cX7_widest 59 = .ok (.ireturn, 1) := by decide +kernel
theorem dX7_torn_0 : decode cX7_torn 0 = .ok (.aload_n 0, 1) := by decide +kernel
theorem dX7_torn_1 : decode cX7_torn 1 = .ok (.iload_n 1, 1) := by decide +kernel
theorem dX7_torn_2 : decode cX7_torn 2 = .ok (.invokevirtual 167, 3) := by decide +kernel
theorem dX7_torn_5 : decode cX7_torn 5 = .ok (.ifCond .eq 17, 3) := by decide +kernel
theorem dX7_torn_8 : decode cX7_torn 8 = .ok (.aload_n 0, 1) := by decide +kernel
theorem dX7_torn_9 : decode cX7_torn 9 = .ok (.aload_n 0, 1) := by decide +kernel
theorem dX7_torn_10 : decode cX7_torn 10 = .ok (.getfield 52, 3) := by decide +kernel
theorem dX7_torn_13 : decode cX7_torn 13 = .ok (.getfield 187, 3) := by decide +kernel
theorem dX7_torn_16 : decode cX7_torn 16 = .ok (.invokevirtual 130, 3) := by decide +kernel
theorem dX7_torn_19 : decode cX7_torn 19 = .ok (.goto 4, 3) := by decide +kernel
theorem dX7_torn_22 : decode cX7_torn 22 = .ok (.iconst (-1), 1) := by decide +kernel
theorem dX7_torn_23 : decode cX7_torn 23 = .ok (.ireturn, 1) := by decide +kernel
theorem dX7_tornBy_0 : decode cX7_tornBy 0 = .ok (.aload_n 0, 1) := by decide +kernel
theorem dX7_tornBy_1 : decode cX7_tornBy 1 = .ok (.iload_n 1, 1) := by decide +kernel
theorem dX7_tornBy_2 : decode cX7_tornBy 2 = .ok (.invokevirtual 167, 3) := by decide +kernel
theorem dX7_tornBy_5 : decode cX7_tornBy 5 = .ok (.ifCond .ne 5, 3) := by decide +kernel
theorem dX7_tornBy_8 : decode cX7_tornBy 8 = .ok (.iconst (-1), 1) := by decide +kernel
theorem dX7_tornBy_9 : decode cX7_tornBy 9 = .ok (.ireturn, 1) := by decide +kernel
theorem dX7_tornBy_10 : decode cX7_tornBy 10 = .ok (.aload_n 0, 1) := by decide +kernel
theorem dX7_tornBy_11 : decode cX7_tornBy 11 = .ok (.getfield 52, 3) := by decide +kernel
theorem dX7_tornBy_14 : decode cX7_tornBy 14 = .ok (.getfield 187, 3) := by decide +kernel
theorem dX7_tornBy_17 : decode cX7_tornBy 17 = .ok (.ifCond .ge 12, 3) := by decide +kernel
theorem dX7_tornBy_20 : decode cX7_tornBy 20 = .ok (.aload_n 0, 1) := by decide +kernel
theorem dX7_tornBy_21 : decode cX7_tornBy 21 = .ok (.bipush 6, 2) := by decide +kernel
theorem dX7_tornBy_23 : decode cX7_tornBy 23 = .ok (.invokevirtual 99, 3) := by decide +kernel
theorem dX7_tornBy_26 : decode cX7_tornBy 26 = .ok (.goto 14, 3) := by decide +kernel
theorem dX7_tornBy_29 : decode cX7_tornBy 29 = .ok (.aload_n 0, 1) := by decide +kernel
theorem dX7_tornBy_30 : decode cX7_tornBy 30 = .ok (.aload_n 0, 1) := by decide +kernel
theorem dX7_tornBy_31 : decode cX7_tornBy 31 = .ok (.getfield 52, 3) := by decide +kernel
theorem dX7_tornBy_34 : decode cX7_tornBy 34 = .ok (.getfield 190, 3) := by decide +kernel
theorem dX7_tornBy_37 : decode cX7_tornBy 37 = .ok (.invokevirtual 130, 3) := by decide +kernel
theorem dX7_tornBy_40 : decode cX7_tornBy 40 = .ok (.ireturn, 1) := by decide +kernel
theorem dX7_joined_0 : decode cX7_joined 0 = .ok (.aload_n 0, 1) := by decide +kernel
theorem dX7_joined_1 : decode cX7_joined 1 = .ok (.iload_n 1, 1) := by decide +kernel
theorem dX7_joined_2 : decode cX7_joined 2 = .ok (.invokevirtual 167, 3) := by decide +kernel
theorem dX7_joined_5 : decode cX7_joined 5 = .ok (.ifCond .eq 17, 3) := by decide +kernel
theorem dX7_joined_8 : decode cX7_joined 8 = .ok (.aload_n 0, 1) := by decide +kernel
theorem dX7_joined_9 : decode cX7_joined 9 = .ok (.aload_n 0, 1) := by decide +kernel
theorem dX7_joined_10 : decode cX7_joined 10 = .ok (.getfield 52, 3) := by decide +kernel
theorem dX7_joined_13 : decode cX7_joined 13 = .ok (.getfield 193, 3) := by decide +kernel
theorem dX7_joined_16 : decode cX7_joined 16 = .ok (.invokevirtual 130, 3) := by decide +kernel
theorem dX7_joined_19 : decode cX7_joined 19 = .ok (.goto 4, 3) := by decide +kernel
theorem dX7_joined_22 : decode cX7_joined 22 = .ok (.iconst (-1), 1) := by decide +kernel
theorem dX7_joined_23 : decode cX7_joined 23 = .ok (.ireturn, 1) := by decide +kernel
theorem dX7_ring_0 : decode cX7_ring 0 = .ok (.aload_n 0, 1) := by decide +kernel
theorem dX7_ring_1 : decode cX7_ring 1 = .ok (.iload_n 1, 1) := by decide +kernel
theorem dX7_ring_2 : decode cX7_ring 2 = .ok (.invokevirtual 167, 3) := by decide +kernel
theorem dX7_ring_5 : decode cX7_ring 5 = .ok (.ifCond .eq 17, 3) := by decide +kernel
theorem dX7_ring_8 : decode cX7_ring 8 = .ok (.aload_n 0, 1) := by decide +kernel
theorem dX7_ring_9 : decode cX7_ring 9 = .ok (.aload_n 0, 1) := by decide +kernel
theorem dX7_ring_10 : decode cX7_ring 10 = .ok (.getfield 52, 3) := by decide +kernel
theorem dX7_ring_13 : decode cX7_ring 13 = .ok (.getfield 196, 3) := by decide +kernel
theorem dX7_ring_16 : decode cX7_ring 16 = .ok (.invokevirtual 130, 3) := by decide +kernel
theorem dX7_ring_19 : decode cX7_ring 19 = .ok (.goto 4, 3) := by decide +kernel
theorem dX7_ring_22 : decode cX7_ring 22 = .ok (.iconst (-1), 1) := by decide +kernel
theorem dX7_ring_23 : decode cX7_ring 23 = .ok (.ireturn, 1) := by decide +kernel
theorem dX7_jolt_0 : decode cX7_jolt 0 = .ok (.iload_n 2, 1) := by decide +kernel
theorem dX7_jolt_1 : decode cX7_jolt 1 = .ok (.iconst 1, 1) := by decide +kernel
theorem dX7_jolt_2 : decode cX7_jolt 2 = .ok (.if_icmp .lt 11, 3) := by decide +kernel
theorem dX7_jolt_5 : decode cX7_jolt 5 = .ok (.aload_n 0, 1) := by decide +kernel
theorem dX7_jolt_6 : decode cX7_jolt 6 = .ok (.iload_n 2, 1) := by decide +kernel
theorem dX7_jolt_7 : decode cX7_jolt 7 = .ok (.invokevirtual 143, 3) := by decide +kernel
theorem dX7_jolt_10 : decode cX7_jolt 10 = .ok (.ifCond .ne 9, 3) := by decide +kernel
theorem dX7_jolt_13 : decode cX7_jolt 13 = .ok (.aload_n 0, 1) := by decide +kernel
theorem dX7_jolt_14 : decode cX7_jolt 14 = .ok (.iconst 1, 1) := by decide +kernel
theorem dX7_jolt_15 : decode cX7_jolt 15 = .ok (.invokevirtual 99, 3) := by decide +kernel
theorem dX7_jolt_18 : decode cX7_jolt 18 = .ok (.ireturn, 1) := by decide +kernel
theorem dX7_jolt_19 : decode cX7_jolt 19 = .ok (.iload_n 1, 1) := by decide +kernel
theorem dX7_jolt_20 : decode cX7_jolt 20 = .ok (.iconst 1, 1) := by decide +kernel
theorem dX7_jolt_21 : decode cX7_jolt 21 = .ok (.if_icmp .lt 8, 3) := by decide +kernel
theorem dX7_jolt_24 : decode cX7_jolt 24 = .ok (.iload_n 1, 1) := by decide +kernel
theorem dX7_jolt_25 : decode cX7_jolt 25 = .ok (.iconst 4, 1) := by decide +kernel
theorem dX7_jolt_26 : decode cX7_jolt 26 = .ok (.if_icmp .le 9, 3) := by decide +kernel
theorem dX7_jolt_29 : decode cX7_jolt 29 = .ok (.aload_n 0, 1) := by decide +kernel
theorem dX7_jolt_30 : decode cX7_jolt 30 = .ok (.iconst 2, 1) := by decide +kernel
theorem dX7_jolt_31 : decode cX7_jolt 31 = .ok (.invokevirtual 99, 3) := by decide +kernel
theorem dX7_jolt_34 : decode cX7_jolt 34 = .ok (.ireturn, 1) := by decide +kernel
theorem dX7_jolt_35 : decode cX7_jolt 35 = .ok (.aload_n 0, 1) := by decide +kernel
theorem dX7_jolt_36 : decode cX7_jolt 36 = .ok (.getfield 52, 3) := by decide +kernel
theorem dX7_jolt_39 : decode cX7_jolt 39 = .ok (.aload_n 0, 1) := by decide +kernel
theorem dX7_jolt_40 : decode cX7_jolt 40 = .ok (.getfield 44, 3) := by decide +kernel
theorem dX7_jolt_43 : decode cX7_jolt 43 = .ok (.iload_n 1, 1) := by decide +kernel
theorem dX7_jolt_44 : decode cX7_jolt 44 = .ok (.bipush 12, 2) := by decide +kernel
theorem dX7_jolt_46 : decode cX7_jolt 46 = .ok (.invokevirtual 199, 3) := by decide +kernel
theorem dX7_jolt_49 : decode cX7_jolt 49 = .ok (.aload_n 0, 1) := by decide +kernel
theorem dX7_jolt_50 : decode cX7_jolt 50 = .ok (.aload_n 0, 1) := by decide +kernel
theorem dX7_jolt_51 : decode cX7_jolt 51 = .ok (.iload_n 2, 1) := by decide +kernel
theorem dX7_jolt_52 : decode cX7_jolt 52 = .ok (.invokevirtual 203, 3) := by decide +kernel
theorem dX7_jolt_55 : decode cX7_jolt 55 = .ok (.invokevirtual 130, 3) := by decide +kernel
theorem dX7_jolt_58 : decode cX7_jolt 58 = .ok (.ireturn, 1) := by decide +kernel
theorem dX7_grows_0 : decode cX7_grows 0 = .ok (.iload_n 2, 1) := by decide +kernel
theorem dX7_grows_1 : decode cX7_grows 1 = .ok (.iconst 1, 1) := by decide +kernel
theorem dX7_grows_2 : decode cX7_grows 2 = .ok (.if_icmp .lt 21, 3) := by decide +kernel
theorem dX7_grows_5 : decode cX7_grows 5 = .ok (.aload_n 0, 1) := by decide +kernel
theorem dX7_grows_6 : decode cX7_grows 6 = .ok (.iload_n 2, 1) := by decide +kernel
theorem dX7_grows_7 : decode cX7_grows 7 = .ok (.invokevirtual 143, 3) := by decide +kernel
theorem dX7_grows_10 : decode cX7_grows 10 = .ok (.ifCond .eq 13, 3) := by decide +kernel
theorem dX7_grows_13 : decode cX7_grows 13 = .ok (.aload_n 0, 1) := by decide +kernel
theorem dX7_grows_14 : decode cX7_grows 14 = .ok (.iload_n 2, 1) := by decide +kernel
theorem dX7_grows_15 : decode cX7_grows 15 = .ok (.iconst 1, 1) := by decide +kernel
theorem dX7_grows_16 : decode cX7_grows 16 = .ok (.iadd, 1) := by decide +kernel
theorem dX7_grows_17 : decode cX7_grows 17 = .ok (.invokevirtual 143, 3) := by decide +kernel
theorem dX7_grows_20 : decode cX7_grows 20 = .ok (.ifCond .ne 9, 3) := by decide +kernel
theorem dX7_grows_23 : decode cX7_grows 23 = .ok (.aload_n 0, 1) := by decide +kernel
theorem dX7_grows_24 : decode cX7_grows 24 = .ok (.iconst 1, 1) := by decide +kernel
theorem dX7_grows_25 : decode cX7_grows 25 = .ok (.invokevirtual 99, 3) := by decide +kernel
theorem dX7_grows_28 : decode cX7_grows 28 = .ok (.ireturn, 1) := by decide +kernel
theorem dX7_grows_29 : decode cX7_grows 29 = .ok (.iload_n 1, 1) := by decide +kernel
theorem dX7_grows_30 : decode cX7_grows 30 = .ok (.iconst 1, 1) := by decide +kernel
theorem dX7_grows_31 : decode cX7_grows 31 = .ok (.if_icmp .lt 8, 3) := by decide +kernel
theorem dX7_grows_34 : decode cX7_grows 34 = .ok (.iload_n 1, 1) := by decide +kernel
theorem dX7_grows_35 : decode cX7_grows 35 = .ok (.iconst 4, 1) := by decide +kernel
theorem dX7_grows_36 : decode cX7_grows 36 = .ok (.if_icmp .le 9, 3) := by decide +kernel
theorem dX7_grows_39 : decode cX7_grows 39 = .ok (.aload_n 0, 1) := by decide +kernel
theorem dX7_grows_40 : decode cX7_grows 40 = .ok (.iconst 2, 1) := by decide +kernel
theorem dX7_grows_41 : decode cX7_grows 41 = .ok (.invokevirtual 99, 3) := by decide +kernel
theorem dX7_grows_44 : decode cX7_grows 44 = .ok (.ireturn, 1) := by decide +kernel
theorem dX7_grows_45 : decode cX7_grows 45 = .ok (.aload_n 0, 1) := by decide +kernel
theorem dX7_grows_46 : decode cX7_grows 46 = .ok (.getfield 52, 3) := by decide +kernel
theorem dX7_grows_49 : decode cX7_grows 49 = .ok (.aload_n 0, 1) := by decide +kernel
theorem dX7_grows_50 : decode cX7_grows 50 = .ok (.getfield 44, 3) := by decide +kernel
theorem dX7_grows_53 : decode cX7_grows 53 = .ok (.iload_n 1, 1) := by decide +kernel
theorem dX7_grows_54 : decode cX7_grows 54 = .ok (.bipush 12, 2) := by decide +kernel
theorem dX7_grows_56 : decode cX7_grows 56 = .ok (.invokevirtual 199, 3) := by decide +kernel
theorem dX7_grows_59 : decode cX7_grows 59 = .ok (.aload_n 0, 1) := by decide +kernel
theorem dX7_grows_60 : decode cX7_grows 60 = .ok (.iload_n 2, 1) := by decide +kernel
theorem dX7_grows_61 : decode cX7_grows 61 = .ok (.invokevirtual 203, 3) := by decide +kernel
theorem dX7_grows_64 : decode cX7_grows 64 = .ok (.istore_n 3, 1) := by decide +kernel
theorem dX7_grows_65 : decode cX7_grows 65 = .ok (.aload_n 0, 1) := by decide +kernel
theorem dX7_grows_66 : decode cX7_grows 66 = .ok (.iload_n 2, 1) := by decide +kernel
theorem dX7_grows_67 : decode cX7_grows 67 = .ok (.iconst 1, 1) := by decide +kernel
theorem dX7_grows_68 : decode cX7_grows 68 = .ok (.iadd, 1) := by decide +kernel
theorem dX7_grows_69 : decode cX7_grows 69 = .ok (.invokevirtual 203, 3) := by decide +kernel
theorem dX7_grows_72 : decode cX7_grows 72 = .ok (.istore 4, 2) := by decide +kernel
theorem dX7_grows_74 : decode cX7_grows 74 = .ok (.iload_n 3, 1) := by decide +kernel
theorem dX7_grows_75 : decode cX7_grows 75 = .ok (.bipush (-2), 2) := by decide +kernel
theorem dX7_grows_77 : decode cX7_grows 77 = .ok (.if_icmp .eq 10, 3) := by decide +kernel
theorem dX7_grows_80 : decode cX7_grows 80 = .ok (.iload 4, 2) := by decide +kernel
theorem dX7_grows_82 : decode cX7_grows 82 = .ok (.bipush (-2), 2) := by decide +kernel
theorem dX7_grows_84 : decode cX7_grows 84 = .ok (.if_icmp .ne 10, 3) := by decide +kernel
theorem dX7_grows_87 : decode cX7_grows 87 = .ok (.aload_n 0, 1) := by decide +kernel
theorem dX7_grows_88 : decode cX7_grows 88 = .ok (.bipush (-2), 2) := by decide +kernel
theorem dX7_grows_90 : decode cX7_grows 90 = .ok (.invokevirtual 130, 3) := by decide +kernel
theorem dX7_grows_93 : decode cX7_grows 93 = .ok (.ireturn, 1) := by decide +kernel
theorem dX7_grows_94 : decode cX7_grows 94 = .ok (.aload_n 0, 1) := by decide +kernel
theorem dX7_grows_95 : decode cX7_grows 95 = .ok (.iload 4, 2) := by decide +kernel
theorem dX7_grows_97 : decode cX7_grows 97 = .ok (.iload_n 3, 1) := by decide +kernel
theorem dX7_grows_98 : decode cX7_grows 98 = .ok (.invokestatic 206, 3) := by decide +kernel
theorem dX7_grows_101 : decode cX7_grows 101 = .ok (.invokevirtual 130, 3) := by decide +kernel
theorem dX7_grows_104 : decode cX7_grows 104 = .ok (.ireturn, 1) := by decide +kernel
theorem dX7_holds_0 : decode cX7_holds 0 = .ok (.aload_n 0, 1) := by decide +kernel
theorem dX7_holds_1 : decode cX7_holds 1 = .ok (.getfield 78, 3) := by decide +kernel
theorem dX7_holds_4 : decode cX7_holds 4 = .ok (.ifCond .ne 9, 3) := by decide +kernel
theorem dX7_holds_7 : decode cX7_holds 7 = .ok (.aload_n 0, 1) := by decide +kernel
theorem dX7_holds_8 : decode cX7_holds 8 = .ok (.iconst 1, 1) := by decide +kernel
theorem dX7_holds_9 : decode cX7_holds 9 = .ok (.invokevirtual 99, 3) := by decide +kernel
theorem dX7_holds_12 : decode cX7_holds 12 = .ok (.ireturn, 1) := by decide +kernel
theorem dX7_holds_13 : decode cX7_holds 13 = .ok (.iconst 3, 1) := by decide +kernel
theorem dX7_holds_14 : decode cX7_holds 14 = .ok (.istore_n 1, 1) := by decide +kernel
theorem dX7_holds_15 : decode cX7_holds 15 = .ok (.iload_n 1, 1) := by decide +kernel
theorem dX7_holds_16 : decode cX7_holds 16 = .ok (.iconst 1, 1) := by decide +kernel
theorem dX7_holds_17 : decode cX7_holds 17 = .ok (.if_icmp .lt 53, 3) := by decide +kernel
theorem dX7_holds_20 : decode cX7_holds 20 = .ok (.aload_n 0, 1) := by decide +kernel
theorem dX7_holds_21 : decode cX7_holds 21 = .ok (.getfield 52, 3) := by decide +kernel
theorem dX7_holds_24 : decode cX7_holds 24 = .ok (.aload_n 0, 1) := by decide +kernel
theorem dX7_holds_25 : decode cX7_holds 25 = .ok (.getfield 44, 3) := by decide +kernel
theorem dX7_holds_28 : decode cX7_holds 28 = .ok (.invokevirtual 211, 3) := by decide +kernel
theorem dX7_holds_31 : decode cX7_holds 31 = .ok (.aload_n 0, 1) := by decide +kernel
theorem dX7_holds_32 : decode cX7_holds 32 = .ok (.getfield 52, 3) := by decide +kernel
theorem dX7_holds_35 : decode cX7_holds 35 = .ok (.iload_n 1, 1) := by decide +kernel
theorem dX7_holds_36 : decode cX7_holds 36 = .ok (.putfield 214, 3) := by decide +kernel
theorem dX7_holds_39 : decode cX7_holds 39 = .ok (.aload_n 0, 1) := by decide +kernel
theorem dX7_holds_40 : decode cX7_holds 40 = .ok (.getfield 52, 3) := by decide +kernel
theorem dX7_holds_43 : decode cX7_holds 43 = .ok (.bipush 12, 2) := by decide +kernel
theorem dX7_holds_45 : decode cX7_holds 45 = .ok (.invokevirtual 217, 3) := by decide +kernel
theorem dX7_holds_48 : decode cX7_holds 48 = .ok (.aload_n 0, 1) := by decide +kernel
theorem dX7_holds_49 : decode cX7_holds 49 = .ok (.getfield 52, 3) := by decide +kernel
theorem dX7_holds_52 : decode cX7_holds 52 = .ok (.getfield 187, 3) := by decide +kernel
theorem dX7_holds_55 : decode cX7_holds 55 = .ok (.ifCond .ge 9, 3) := by decide +kernel
theorem dX7_holds_58 : decode cX7_holds 58 = .ok (.aload_n 0, 1) := by decide +kernel
theorem dX7_holds_59 : decode cX7_holds 59 = .ok (.iload_n 1, 1) := by decide +kernel
theorem dX7_holds_60 : decode cX7_holds 60 = .ok (.invokevirtual 130, 3) := by decide +kernel
theorem dX7_holds_63 : decode cX7_holds 63 = .ok (.ireturn, 1) := by decide +kernel
theorem dX7_holds_64 : decode cX7_holds 64 = .ok (.iinc 1 (-1), 3) := by decide +kernel
theorem dX7_holds_67 : decode cX7_holds 67 = .ok (.goto (-52), 3) := by decide +kernel
theorem dX7_holds_70 : decode cX7_holds 70 = .ok (.aload_n 0, 1) := by decide +kernel
theorem dX7_holds_71 : decode cX7_holds 71 = .ok (.bipush (-2), 2) := by decide +kernel
theorem dX7_holds_73 : decode cX7_holds 73 = .ok (.invokevirtual 130, 3) := by decide +kernel
theorem dX7_holds_76 : decode cX7_holds 76 = .ok (.ireturn, 1) := by decide +kernel
theorem dX7_order_0 : decode cX7_order 0 = .ok (.aload_n 0, 1) := by decide +kernel
theorem dX7_order_1 : decode cX7_order 1 = .ok (.getfield 78, 3) := by decide +kernel
theorem dX7_order_4 : decode cX7_order 4 = .ok (.ifCond .ne 9, 3) := by decide +kernel
theorem dX7_order_7 : decode cX7_order 7 = .ok (.aload_n 0, 1) := by decide +kernel
theorem dX7_order_8 : decode cX7_order 8 = .ok (.iconst 1, 1) := by decide +kernel
theorem dX7_order_9 : decode cX7_order 9 = .ok (.invokevirtual 99, 3) := by decide +kernel
theorem dX7_order_12 : decode cX7_order 12 = .ok (.ireturn, 1) := by decide +kernel
theorem dX7_order_13 : decode cX7_order 13 = .ok (.aload_n 0, 1) := by decide +kernel
theorem dX7_order_14 : decode cX7_order 14 = .ok (.getfield 44, 3) := by decide +kernel
theorem dX7_order_17 : decode cX7_order 17 = .ok (.getfield 127, 3) := by decide +kernel
theorem dX7_order_20 : decode cX7_order 20 = .ok (.invokevirtual 92, 3) := by decide +kernel
theorem dX7_order_23 : decode cX7_order 23 = .ok (.bipush 7, 2) := by decide +kernel
theorem dX7_order_25 : decode cX7_order 25 = .ok (.if_icmp .le 9, 3) := by decide +kernel
theorem dX7_order_28 : decode cX7_order 28 = .ok (.aload_n 0, 1) := by decide +kernel
theorem dX7_order_29 : decode cX7_order 29 = .ok (.iconst 3, 1) := by decide +kernel
theorem dX7_order_30 : decode cX7_order 30 = .ok (.invokevirtual 99, 3) := by decide +kernel
theorem dX7_order_33 : decode cX7_order 33 = .ok (.ireturn, 1) := by decide +kernel
theorem dX7_order_34 : decode cX7_order 34 = .ok (.aload_n 0, 1) := by decide +kernel
theorem dX7_order_35 : decode cX7_order 35 = .ok (.aload_n 0, 1) := by decide +kernel
theorem dX7_order_36 : decode cX7_order 36 = .ok (.invokevirtual 220, 3) := by decide +kernel
theorem dX7_order_39 : decode cX7_order 39 = .ok (.invokevirtual 130, 3) := by decide +kernel
theorem dX7_order_42 : decode cX7_order 42 = .ok (.ireturn, 1) := by decide +kernel
theorem dX7_orderAt_0 : decode cX7_orderAt 0 = .ok (.iload_n 1, 1) := by decide +kernel
theorem dX7_orderAt_1 : decode cX7_orderAt 1 = .ok (.iconst 1, 1) := by decide +kernel
theorem dX7_orderAt_2 : decode cX7_orderAt 2 = .ok (.if_icmp .lt 11, 3) := by decide +kernel
theorem dX7_orderAt_5 : decode cX7_orderAt 5 = .ok (.aload_n 0, 1) := by decide +kernel
theorem dX7_orderAt_6 : decode cX7_orderAt 6 = .ok (.iload_n 1, 1) := by decide +kernel
theorem dX7_orderAt_7 : decode cX7_orderAt 7 = .ok (.invokevirtual 143, 3) := by decide +kernel
theorem dX7_orderAt_10 : decode cX7_orderAt 10 = .ok (.ifCond .ne 9, 3) := by decide +kernel
theorem dX7_orderAt_13 : decode cX7_orderAt 13 = .ok (.aload_n 0, 1) := by decide +kernel
theorem dX7_orderAt_14 : decode cX7_orderAt 14 = .ok (.iconst 1, 1) := by decide +kernel
theorem dX7_orderAt_15 : decode cX7_orderAt 15 = .ok (.invokevirtual 99, 3) := by decide +kernel
theorem dX7_orderAt_18 : decode cX7_orderAt 18 = .ok (.ireturn, 1) := by decide +kernel
theorem dX7_orderAt_19 : decode cX7_orderAt 19 = .ok (.aload_n 0, 1) := by decide +kernel
theorem dX7_orderAt_20 : decode cX7_orderAt 20 = .ok (.getfield 44, 3) := by decide +kernel
theorem dX7_orderAt_23 : decode cX7_orderAt 23 = .ok (.getfield 127, 3) := by decide +kernel
theorem dX7_orderAt_26 : decode cX7_orderAt 26 = .ok (.invokevirtual 92, 3) := by decide +kernel
theorem dX7_orderAt_29 : decode cX7_orderAt 29 = .ok (.bipush 7, 2) := by decide +kernel
theorem dX7_orderAt_31 : decode cX7_orderAt 31 = .ok (.if_icmp .le 9, 3) := by decide +kernel
theorem dX7_orderAt_34 : decode cX7_orderAt 34 = .ok (.aload_n 0, 1) := by decide +kernel
theorem dX7_orderAt_35 : decode cX7_orderAt 35 = .ok (.iconst 3, 1) := by decide +kernel
theorem dX7_orderAt_36 : decode cX7_orderAt 36 = .ok (.invokevirtual 99, 3) := by decide +kernel
theorem dX7_orderAt_39 : decode cX7_orderAt 39 = .ok (.ireturn, 1) := by decide +kernel
theorem dX7_orderAt_40 : decode cX7_orderAt 40 = .ok (.aload_n 0, 1) := by decide +kernel
theorem dX7_orderAt_41 : decode cX7_orderAt 41 = .ok (.invokevirtual 220, 3) := by decide +kernel
theorem dX7_orderAt_44 : decode cX7_orderAt 44 = .ok (.pop, 1) := by decide +kernel
theorem dX7_orderAt_45 : decode cX7_orderAt 45 = .ok (.aload_n 0, 1) := by decide +kernel
theorem dX7_orderAt_46 : decode cX7_orderAt 46 = .ok (.aload_n 0, 1) := by decide +kernel
theorem dX7_orderAt_47 : decode cX7_orderAt 47 = .ok (.getfield 71, 3) := by decide +kernel
theorem dX7_orderAt_50 : decode cX7_orderAt 50 = .ok (.getfield 223, 3) := by decide +kernel
theorem dX7_orderAt_53 : decode cX7_orderAt 53 = .ok (.iload_n 1, 1) := by decide +kernel
theorem dX7_orderAt_54 : decode cX7_orderAt 54 = .ok (.iconst 0, 1) := by decide +kernel
theorem dX7_orderAt_55 : decode cX7_orderAt 55 = .ok (.invokevirtual 140, 3) := by decide +kernel
theorem dX7_orderAt_58 : decode cX7_orderAt 58 = .ok (.invokevirtual 130, 3) := by decide +kernel
theorem dX7_orderAt_61 : decode cX7_orderAt 61 = .ok (.ireturn, 1) := by decide +kernel
theorem dX7_leader_0 : decode cX7_leader 0 = .ok (.aload_n 0, 1) := by decide +kernel
theorem dX7_leader_1 : decode cX7_leader 1 = .ok (.iload_n 1, 1) := by decide +kernel
theorem dX7_leader_2 : decode cX7_leader 2 = .ok (.invokevirtual 167, 3) := by decide +kernel
theorem dX7_leader_5 : decode cX7_leader 5 = .ok (.ifCond .ne 5, 3) := by decide +kernel
theorem dX7_leader_8 : decode cX7_leader 8 = .ok (.iconst (-1), 1) := by decide +kernel
theorem dX7_leader_9 : decode cX7_leader 9 = .ok (.ireturn, 1) := by decide +kernel
theorem dX7_leader_10 : decode cX7_leader 10 = .ok (.iconst 0, 1) := by decide +kernel
theorem dX7_leader_11 : decode cX7_leader 11 = .ok (.istore_n 2, 1) := by decide +kernel
theorem dX7_leader_12 : decode cX7_leader 12 = .ok (.iconst (-1), 1) := by decide +kernel
theorem dX7_leader_13 : decode cX7_leader 13 = .ok (.istore_n 3, 1) := by decide +kernel
theorem dX7_leader_14 : decode cX7_leader 14 = .ok (.iconst 0, 1) := by decide +kernel
theorem dX7_leader_15 : decode cX7_leader 15 = .ok (.istore 4, 2) := by decide +kernel
theorem dX7_leader_17 : decode cX7_leader 17 = .ok (.iload 4, 2) := by decide +kernel
theorem dX7_leader_19 : decode cX7_leader 19 = .ok (.iconst 4, 1) := by decide +kernel
theorem dX7_leader_20 : decode cX7_leader 20 = .ok (.if_icmp .gt 83, 3) := by decide +kernel
theorem dX7_leader_23 : decode cX7_leader 23 = .ok (.iload 4, 2) := by decide +kernel
theorem dX7_leader_25 : decode cX7_leader 25 = .ok (.iconst 3, 1) := by decide +kernel
theorem dX7_leader_26 : decode cX7_leader 26 = .ok (.if_icmp .ne 6, 3) := by decide +kernel
theorem dX7_leader_29 : decode cX7_leader 29 = .ok (.goto 68, 3) := by decide +kernel
theorem dX7_leader_32 : decode cX7_leader 32 = .ok (.aload_n 0, 1) := by decide +kernel
theorem dX7_leader_33 : decode cX7_leader 33 = .ok (.getfield 52, 3) := by decide +kernel
theorem dX7_leader_36 : decode cX7_leader 36 = .ok (.aload_n 0, 1) := by decide +kernel
theorem dX7_leader_37 : decode cX7_leader 37 = .ok (.getfield 44, 3) := by decide +kernel
theorem dX7_leader_40 : decode cX7_leader 40 = .ok (.invokevirtual 211, 3) := by decide +kernel
theorem dX7_leader_43 : decode cX7_leader 43 = .ok (.aload_n 0, 1) := by decide +kernel
theorem dX7_leader_44 : decode cX7_leader 44 = .ok (.getfield 52, 3) := by decide +kernel
theorem dX7_leader_47 : decode cX7_leader 47 = .ok (.getfield 170, 3) := by decide +kernel
theorem dX7_leader_50 : decode cX7_leader 50 = .ok (.iload 4, 2) := by decide +kernel
theorem dX7_leader_52 : decode cX7_leader 52 = .ok (.putfield 226, 3) := by decide +kernel
theorem dX7_leader_55 : decode cX7_leader 55 = .ok (.aload_n 0, 1) := by decide +kernel
theorem dX7_leader_56 : decode cX7_leader 56 = .ok (.getfield 52, 3) := by decide +kernel
theorem dX7_leader_59 : decode cX7_leader 59 = .ok (.iload_n 1, 1) := by decide +kernel
theorem dX7_leader_60 : decode cX7_leader 60 = .ok (.invokevirtual 217, 3) := by decide +kernel
theorem dX7_leader_63 : decode cX7_leader 63 = .ok (.aload_n 0, 1) := by decide +kernel
theorem dX7_leader_64 : decode cX7_leader 64 = .ok (.getfield 52, 3) := by decide +kernel
theorem dX7_leader_67 : decode cX7_leader 67 = .ok (.getfield 170, 3) := by decide +kernel
theorem dX7_leader_70 : decode cX7_leader 70 = .ok (.getfield 127, 3) := by decide +kernel
theorem dX7_leader_73 : decode cX7_leader 73 = .ok (.invokevirtual 92, 3) := by decide +kernel
theorem dX7_leader_76 : decode cX7_leader 76 = .ok (.iload_n 3, 1) := by decide +kernel
theorem dX7_leader_77 : decode cX7_leader 77 = .ok (.if_icmp .le 20, 3) := by decide +kernel
theorem dX7_leader_80 : decode cX7_leader 80 = .ok (.aload_n 0, 1) := by decide +kernel
theorem dX7_leader_81 : decode cX7_leader 81 = .ok (.getfield 52, 3) := by decide +kernel
theorem dX7_leader_84 : decode cX7_leader 84 = .ok (.getfield 170, 3) := by decide +kernel
theorem dX7_leader_87 : decode cX7_leader 87 = .ok (.getfield 127, 3) := by decide +kernel
theorem dX7_leader_90 : decode cX7_leader 90 = .ok (.invokevirtual 92, 3) := by decide +kernel
theorem dX7_leader_93 : decode cX7_leader 93 = .ok (.istore_n 3, 1) := by decide +kernel
theorem dX7_leader_94 : decode cX7_leader 94 = .ok (.iload 4, 2) := by decide +kernel
theorem dX7_leader_96 : decode cX7_leader 96 = .ok (.istore_n 2, 1) := by decide +kernel
theorem dX7_leader_97 : decode cX7_leader 97 = .ok (.iinc 4 1, 3) := by decide +kernel
theorem dX7_leader_100 : decode cX7_leader 100 = .ok (.goto (-83), 3) := by decide +kernel
theorem dX7_leader_103 : decode cX7_leader 103 = .ok (.aload_n 0, 1) := by decide +kernel
theorem dX7_leader_104 : decode cX7_leader 104 = .ok (.iload_n 2, 1) := by decide +kernel
theorem dX7_leader_105 : decode cX7_leader 105 = .ok (.invokevirtual 130, 3) := by decide +kernel
theorem dX7_leader_108 : decode cX7_leader 108 = .ok (.ireturn, 1) := by decide +kernel
theorem dX7_plan_0 : decode cX7_plan 0 = .ok (.aload_n 0, 1) := by decide +kernel
theorem dX7_plan_1 : decode cX7_plan 1 = .ok (.iload_n 1, 1) := by decide +kernel
theorem dX7_plan_2 : decode cX7_plan 2 = .ok (.invokevirtual 229, 3) := by decide +kernel
theorem dX7_plan_5 : decode cX7_plan 5 = .ok (.istore_n 2, 1) := by decide +kernel
theorem dX7_plan_6 : decode cX7_plan 6 = .ok (.iload_n 2, 1) := by decide +kernel
theorem dX7_plan_7 : decode cX7_plan 7 = .ok (.ifCond .ge 5, 3) := by decide +kernel
theorem dX7_plan_10 : decode cX7_plan 10 = .ok (.iconst (-1), 1) := by decide +kernel
theorem dX7_plan_11 : decode cX7_plan 11 = .ok (.ireturn, 1) := by decide +kernel
theorem dX7_plan_12 : decode cX7_plan 12 = .ok (.aload_n 0, 1) := by decide +kernel
theorem dX7_plan_13 : decode cX7_plan 13 = .ok (.getfield 52, 3) := by decide +kernel
theorem dX7_plan_16 : decode cX7_plan 16 = .ok (.aload_n 0, 1) := by decide +kernel
theorem dX7_plan_17 : decode cX7_plan 17 = .ok (.getfield 44, 3) := by decide +kernel
theorem dX7_plan_20 : decode cX7_plan 20 = .ok (.iload_n 1, 1) := by decide +kernel
theorem dX7_plan_21 : decode cX7_plan 21 = .ok (.iload_n 2, 1) := by decide +kernel
theorem dX7_plan_22 : decode cX7_plan 22 = .ok (.invokevirtual 232, 3) := by decide +kernel
theorem dX7_plan_25 : decode cX7_plan 25 = .ok (.aload_n 0, 1) := by decide +kernel
theorem dX7_plan_26 : decode cX7_plan 26 = .ok (.getfield 52, 3) := by decide +kernel
theorem dX7_plan_29 : decode cX7_plan 29 = .ok (.iload_n 1, 1) := by decide +kernel
theorem dX7_plan_30 : decode cX7_plan 30 = .ok (.invokevirtual 217, 3) := by decide +kernel
theorem dX7_plan_33 : decode cX7_plan 33 = .ok (.aload_n 0, 1) := by decide +kernel
theorem dX7_plan_34 : decode cX7_plan 34 = .ok (.aload_n 0, 1) := by decide +kernel
theorem dX7_plan_35 : decode cX7_plan 35 = .ok (.getfield 52, 3) := by decide +kernel
theorem dX7_plan_38 : decode cX7_plan 38 = .ok (.getfield 170, 3) := by decide +kernel
theorem dX7_plan_41 : decode cX7_plan 41 = .ok (.getfield 127, 3) := by decide +kernel
theorem dX7_plan_44 : decode cX7_plan 44 = .ok (.invokevirtual 92, 3) := by decide +kernel
theorem dX7_plan_47 : decode cX7_plan 47 = .ok (.invokevirtual 130, 3) := by decide +kernel
theorem dX7_plan_50 : decode cX7_plan 50 = .ok (.ireturn, 1) := by decide +kernel
theorem dX7_planAt_0 : decode cX7_planAt 0 = .ok (.aload_n 0, 1) := by decide +kernel
theorem dX7_planAt_1 : decode cX7_planAt 1 = .ok (.iload_n 1, 1) := by decide +kernel
theorem dX7_planAt_2 : decode cX7_planAt 2 = .ok (.invokevirtual 229, 3) := by decide +kernel
theorem dX7_planAt_5 : decode cX7_planAt 5 = .ok (.istore_n 3, 1) := by decide +kernel
theorem dX7_planAt_6 : decode cX7_planAt 6 = .ok (.iload_n 3, 1) := by decide +kernel
theorem dX7_planAt_7 : decode cX7_planAt 7 = .ok (.ifCond .ge 5, 3) := by decide +kernel
theorem dX7_planAt_10 : decode cX7_planAt 10 = .ok (.iconst (-1), 1) := by decide +kernel
theorem dX7_planAt_11 : decode cX7_planAt 11 = .ok (.ireturn, 1) := by decide +kernel
theorem dX7_planAt_12 : decode cX7_planAt 12 = .ok (.iload_n 2, 1) := by decide +kernel
theorem dX7_planAt_13 : decode cX7_planAt 13 = .ok (.ifCond .lt 8, 3) := by decide +kernel
theorem dX7_planAt_16 : decode cX7_planAt 16 = .ok (.iload_n 2, 1) := by decide +kernel
theorem dX7_planAt_17 : decode cX7_planAt 17 = .ok (.iload_n 1, 1) := by decide +kernel
theorem dX7_planAt_18 : decode cX7_planAt 18 = .ok (.if_icmp .lt 11, 3) := by decide +kernel
theorem dX7_planAt_21 : decode cX7_planAt 21 = .ok (.aload_n 0, 1) := by decide +kernel
theorem dX7_planAt_22 : decode cX7_planAt 22 = .ok (.iconst 1, 1) := by decide +kernel
theorem dX7_planAt_23 : decode cX7_planAt 23 = .ok (.invokevirtual 99, 3) := by decide +kernel
theorem dX7_planAt_26 : decode cX7_planAt 26 = .ok (.goto 17, 3) := by decide +kernel
theorem dX7_planAt_29 : decode cX7_planAt 29 = .ok (.aload_n 0, 1) := by decide +kernel
theorem dX7_planAt_30 : decode cX7_planAt 30 = .ok (.aload_n 0, 1) := by decide +kernel
theorem dX7_planAt_31 : decode cX7_planAt 31 = .ok (.getfield 52, 3) := by decide +kernel
theorem dX7_planAt_34 : decode cX7_planAt 34 = .ok (.iload_n 1, 1) := by decide +kernel
theorem dX7_planAt_35 : decode cX7_planAt 35 = .ok (.iload_n 3, 1) := by decide +kernel
theorem dX7_planAt_36 : decode cX7_planAt 36 = .ok (.iload_n 2, 1) := by decide +kernel
theorem dX7_planAt_37 : decode cX7_planAt 37 = .ok (.invokevirtual 235, 3) := by decide +kernel
theorem dX7_planAt_40 : decode cX7_planAt 40 = .ok (.invokevirtual 130, 3) := by decide +kernel
theorem dX7_planAt_43 : decode cX7_planAt 43 = .ok (.ireturn, 1) := by decide +kernel
theorem dX7_mean_0 : decode cX7_mean 0 = .ok (.aload_n 0, 1) := by decide +kernel
theorem dX7_mean_1 : decode cX7_mean 1 = .ok (.getfield 78, 3) := by decide +kernel
theorem dX7_mean_4 : decode cX7_mean 4 = .ok (.ifCond .ne 9, 3) := by decide +kernel
theorem dX7_mean_7 : decode cX7_mean 7 = .ok (.aload_n 0, 1) := by decide +kernel
theorem dX7_mean_8 : decode cX7_mean 8 = .ok (.iconst 1, 1) := by decide +kernel
theorem dX7_mean_9 : decode cX7_mean 9 = .ok (.invokevirtual 99, 3) := by decide +kernel
theorem dX7_mean_12 : decode cX7_mean 12 = .ok (.ireturn, 1) := by decide +kernel
theorem dX7_mean_13 : decode cX7_mean 13 = .ok (.iload_n 1, 1) := by decide +kernel
theorem dX7_mean_14 : decode cX7_mean 14 = .ok (.ifCond .lt 30, 3) := by decide +kernel
theorem dX7_mean_17 : decode cX7_mean 17 = .ok (.iload_n 1, 1) := by decide +kernel
theorem dX7_mean_18 : decode cX7_mean 18 = .ok (.ldc 239, 2) := by decide +kernel
theorem dX7_mean_20 : decode cX7_mean 20 = .ok (.if_icmp .ge 24, 3) := by decide +kernel
theorem dX7_mean_23 : decode cX7_mean 23 = .ok (.iload_n 2, 1) := by decide +kernel
theorem dX7_mean_24 : decode cX7_mean 24 = .ok (.iconst 1, 1) := by decide +kernel
theorem dX7_mean_25 : decode cX7_mean 25 = .ok (.if_icmp .lt 19, 3) := by decide +kernel
theorem dX7_mean_28 : decode cX7_mean 28 = .ok (.iload_n 2, 1) := by decide +kernel
theorem dX7_mean_29 : decode cX7_mean 29 = .ok (.bipush 20, 2) := by decide +kernel
theorem dX7_mean_31 : decode cX7_mean 31 = .ok (.if_icmp .gt 13, 3) := by decide +kernel
theorem dX7_mean_34 : decode cX7_mean 34 = .ok (.iload_n 3, 1) := by decide +kernel
theorem dX7_mean_35 : decode cX7_mean 35 = .ok (.ifCond .lt 9, 3) := by decide +kernel
theorem dX7_mean_38 : decode cX7_mean 38 = .ok (.iload_n 3, 1) := by decide +kernel
theorem dX7_mean_39 : decode cX7_mean 39 = .ok (.bipush 40, 2) := by decide +kernel
theorem dX7_mean_41 : decode cX7_mean 41 = .ok (.if_icmp .le 9, 3) := by decide +kernel
theorem dX7_mean_44 : decode cX7_mean 44 = .ok (.aload_n 0, 1) := by decide +kernel
theorem dX7_mean_45 : decode cX7_mean 45 = .ok (.iconst 2, 1) := by decide +kernel
theorem dX7_mean_46 : decode cX7_mean 46 = .ok (.invokevirtual 99, 3) := by decide +kernel
theorem dX7_mean_49 : decode cX7_mean 49 = .ok (.ireturn, 1) := by decide +kernel
theorem dX7_mean_50 : decode cX7_mean 50 = .ok (.iconst 0, 1) := by decide +kernel
theorem dX7_mean_51 : decode cX7_mean 51 = .ok (.istore 4, 2) := by decide +kernel
theorem dX7_mean_53 : decode cX7_mean 53 = .ok (.iconst 0, 1) := by decide +kernel
theorem dX7_mean_54 : decode cX7_mean 54 = .ok (.istore 5, 2) := by decide +kernel
theorem dX7_mean_56 : decode cX7_mean 56 = .ok (.iload 5, 2) := by decide +kernel
theorem dX7_mean_58 : decode cX7_mean 58 = .ok (.iload_n 2, 1) := by decide +kernel
theorem dX7_mean_59 : decode cX7_mean 59 = .ok (.if_icmp .ge 63, 3) := by decide +kernel
theorem dX7_mean_62 : decode cX7_mean 62 = .ok (.aload_n 0, 1) := by decide +kernel
theorem dX7_mean_63 : decode cX7_mean 63 = .ok (.getfield 52, 3) := by decide +kernel
theorem dX7_mean_66 : decode cX7_mean 66 = .ok (.aload_n 0, 1) := by decide +kernel
theorem dX7_mean_67 : decode cX7_mean 67 = .ok (.getfield 44, 3) := by decide +kernel
theorem dX7_mean_70 : decode cX7_mean 70 = .ok (.invokevirtual 211, 3) := by decide +kernel
theorem dX7_mean_73 : decode cX7_mean 73 = .ok (.aload_n 0, 1) := by decide +kernel
theorem dX7_mean_74 : decode cX7_mean 74 = .ok (.getfield 52, 3) := by decide +kernel
theorem dX7_mean_77 : decode cX7_mean 77 = .ok (.getfield 170, 3) := by decide +kernel
theorem dX7_mean_80 : decode cX7_mean 80 = .ok (.iload_n 1, 1) := by decide +kernel
theorem dX7_mean_81 : decode cX7_mean 81 = .ok (.iload 5, 2) := by decide +kernel
theorem dX7_mean_83 : decode cX7_mean 83 = .ok (.iadd, 1) := by decide +kernel
theorem dX7_mean_84 : decode cX7_mean 84 = .ok (.ldc 239, 2) := by decide +kernel
theorem dX7_mean_86 : decode cX7_mean 86 = .ok (.irem, 1) := by decide +kernel
theorem dX7_mean_87 : decode cX7_mean 87 = .ok (.putfield 240, 3) := by decide +kernel
theorem dX7_mean_90 : decode cX7_mean 90 = .ok (.aload_n 0, 1) := by decide +kernel
theorem dX7_mean_91 : decode cX7_mean 91 = .ok (.getfield 52, 3) := by decide +kernel
theorem dX7_mean_94 : decode cX7_mean 94 = .ok (.iload_n 3, 1) := by decide +kernel
theorem dX7_mean_95 : decode cX7_mean 95 = .ok (.invokevirtual 217, 3) := by decide +kernel
theorem dX7_mean_98 : decode cX7_mean 98 = .ok (.iload 4, 2) := by decide +kernel
theorem dX7_mean_100 : decode cX7_mean 100 = .ok (.aload_n 0, 1) := by decide +kernel
theorem dX7_mean_101 : decode cX7_mean 101 = .ok (.getfield 52, 3) := by decide +kernel
theorem dX7_mean_104 : decode cX7_mean 104 = .ok (.getfield 170, 3) := by decide +kernel
theorem dX7_mean_107 : decode cX7_mean 107 = .ok (.getfield 127, 3) := by decide +kernel
theorem dX7_mean_110 : decode cX7_mean 110 = .ok (.invokevirtual 92, 3) := by decide +kernel
theorem dX7_mean_113 : decode cX7_mean 113 = .ok (.iadd, 1) := by decide +kernel
theorem dX7_mean_114 : decode cX7_mean 114 = .ok (.istore 4, 2) := by decide +kernel
theorem dX7_mean_116 : decode cX7_mean 116 = .ok (.iinc 5 1, 3) := by decide +kernel
theorem dX7_mean_119 : decode cX7_mean 119 = .ok (.goto (-63), 3) := by decide +kernel
theorem dX7_mean_122 : decode cX7_mean 122 = .ok (.aload_n 0, 1) := by decide +kernel
theorem dX7_mean_123 : decode cX7_mean 123 = .ok (.iload 4, 2) := by decide +kernel
theorem dX7_mean_125 : decode cX7_mean 125 = .ok (.invokevirtual 130, 3) := by decide +kernel
theorem dX7_mean_128 : decode cX7_mean 128 = .ok (.ireturn, 1) := by decide +kernel
theorem dX7_late_0 : decode cX7_late 0 = .ok (.aload_n 0, 1) := by decide +kernel
theorem dX7_late_1 : decode cX7_late 1 = .ok (.iload_n 1, 1) := by decide +kernel
theorem dX7_late_2 : decode cX7_late 2 = .ok (.iload_n 2, 1) := by decide +kernel
theorem dX7_late_3 : decode cX7_late 3 = .ok (.invokevirtual 133, 3) := by decide +kernel
theorem dX7_late_6 : decode cX7_late 6 = .ok (.istore_n 3, 1) := by decide +kernel
theorem dX7_late_7 : decode cX7_late 7 = .ok (.iload_n 3, 1) := by decide +kernel
theorem dX7_late_8 : decode cX7_late 8 = .ok (.ifCond .lt 17, 3) := by decide +kernel
theorem dX7_late_11 : decode cX7_late 11 = .ok (.aload_n 0, 1) := by decide +kernel
theorem dX7_late_12 : decode cX7_late 12 = .ok (.getfield 44, 3) := by decide +kernel
theorem dX7_late_15 : decode cX7_late 15 = .ok (.getfield 243, 3) := by decide +kernel
theorem dX7_late_18 : decode cX7_late 18 = .ok (.ifCond .lt 7, 3) := by decide +kernel
theorem dX7_late_21 : decode cX7_late 21 = .ok (.iconst 1, 1) := by decide +kernel
theorem dX7_late_22 : decode cX7_late 22 = .ok (.goto 4, 3) := by decide +kernel
theorem dX7_late_25 : decode cX7_late 25 = .ok (.iconst 0, 1) := by decide +kernel
theorem dX7_late_26 : decode cX7_late 26 = .ok (.istore 4, 2) := by decide +kernel
theorem dX7_late_28 : decode cX7_late 28 = .ok (.iload 4, 2) := by decide +kernel
theorem dX7_late_30 : decode cX7_late 30 = .ok (.ifCond .eq 25, 3) := by decide +kernel
theorem dX7_late_33 : decode cX7_late 33 = .ok (.aload_n 0, 1) := by decide +kernel
theorem dX7_late_34 : decode cX7_late 34 = .ok (.aload_n 0, 1) := by decide +kernel
theorem dX7_late_35 : decode cX7_late 35 = .ok (.getfield 25, 3) := by decide +kernel
theorem dX7_late_38 : decode cX7_late 38 = .ok (.aload_n 0, 1) := by decide +kernel
theorem dX7_late_39 : decode cX7_late 39 = .ok (.getfield 44, 3) := by decide +kernel
theorem dX7_late_42 : decode cX7_late 42 = .ok (.getfield 243, 3) := by decide +kernel
theorem dX7_late_45 : decode cX7_late 45 = .ok (.iload_n 3, 1) := by decide +kernel
theorem dX7_late_46 : decode cX7_late 46 = .ok (.invokevirtual 246, 3) := by decide +kernel
theorem dX7_late_49 : decode cX7_late 49 = .ok (.invokevirtual 130, 3) := by decide +kernel
theorem dX7_late_52 : decode cX7_late 52 = .ok (.goto 8, 3) := by decide +kernel
theorem dX7_late_55 : decode cX7_late 55 = .ok (.aload_n 0, 1) := by decide +kernel
theorem dX7_late_56 : decode cX7_late 56 = .ok (.iconst 1, 1) := by decide +kernel
theorem dX7_late_57 : decode cX7_late 57 = .ok (.invokevirtual 99, 3) := by decide +kernel
theorem dX7_late_60 : decode cX7_late 60 = .ok (.ireturn, 1) := by decide +kernel
theorem dX7_kicks_0 : decode cX7_kicks 0 = .ok (.aload_n 0, 1) := by decide +kernel
theorem dX7_kicks_1 : decode cX7_kicks 1 = .ok (.getfield 78, 3) := by decide +kernel
theorem dX7_kicks_4 : decode cX7_kicks 4 = .ok (.ifCond .ne 9, 3) := by decide +kernel
theorem dX7_kicks_7 : decode cX7_kicks 7 = .ok (.aload_n 0, 1) := by decide +kernel
theorem dX7_kicks_8 : decode cX7_kicks 8 = .ok (.iconst 1, 1) := by decide +kernel
theorem dX7_kicks_9 : decode cX7_kicks 9 = .ok (.invokevirtual 99, 3) := by decide +kernel
theorem dX7_kicks_12 : decode cX7_kicks 12 = .ok (.ireturn, 1) := by decide +kernel
theorem dX7_kicks_13 : decode cX7_kicks 13 = .ok (.aload_n 0, 1) := by decide +kernel
theorem dX7_kicks_14 : decode cX7_kicks 14 = .ok (.aload_n 0, 1) := by decide +kernel
theorem dX7_kicks_15 : decode cX7_kicks 15 = .ok (.getfield 25, 3) := by decide +kernel
theorem dX7_kicks_18 : decode cX7_kicks 18 = .ok (.aload_n 0, 1) := by decide +kernel
theorem dX7_kicks_19 : decode cX7_kicks 19 = .ok (.getfield 44, 3) := by decide +kernel
theorem dX7_kicks_22 : decode cX7_kicks 22 = .ok (.getfield 249, 3) := by decide +kernel
theorem dX7_kicks_25 : decode cX7_kicks 25 = .ok (.invokevirtual 252, 3) := by decide +kernel
theorem dX7_kicks_28 : decode cX7_kicks 28 = .ok (.ifCond .ne 7, 3) := by decide +kernel
theorem dX7_kicks_31 : decode cX7_kicks 31 = .ok (.iconst 1, 1) := by decide +kernel
theorem dX7_kicks_32 : decode cX7_kicks 32 = .ok (.goto 4, 3) := by decide +kernel
theorem dX7_kicks_35 : decode cX7_kicks 35 = .ok (.iconst 0, 1) := by decide +kernel
theorem dX7_kicks_36 : decode cX7_kicks 36 = .ok (.invokevirtual 130, 3) := by decide +kernel
theorem dX7_kicks_39 : decode cX7_kicks 39 = .ok (.ireturn, 1) := by decide +kernel
theorem dX7_inTime_0 : decode cX7_inTime 0 = .ok (.aload_n 0, 1) := by decide +kernel
theorem dX7_inTime_1 : decode cX7_inTime 1 = .ok (.getfield 78, 3) := by decide +kernel
theorem dX7_inTime_4 : decode cX7_inTime 4 = .ok (.ifCond .ne 9, 3) := by decide +kernel
theorem dX7_inTime_7 : decode cX7_inTime 7 = .ok (.aload_n 0, 1) := by decide +kernel
theorem dX7_inTime_8 : decode cX7_inTime 8 = .ok (.iconst 1, 1) := by decide +kernel
theorem dX7_inTime_9 : decode cX7_inTime 9 = .ok (.invokevirtual 99, 3) := by decide +kernel
theorem dX7_inTime_12 : decode cX7_inTime 12 = .ok (.ireturn, 1) := by decide +kernel
theorem dX7_inTime_13 : decode cX7_inTime 13 = .ok (.aload_n 0, 1) := by decide +kernel
theorem dX7_inTime_14 : decode cX7_inTime 14 = .ok (.getfield 44, 3) := by decide +kernel
theorem dX7_inTime_17 : decode cX7_inTime 17 = .ok (.getfield 243, 3) := by decide +kernel
theorem dX7_inTime_20 : decode cX7_inTime 20 = .ok (.ifCond .ge 12, 3) := by decide +kernel
theorem dX7_inTime_23 : decode cX7_inTime 23 = .ok (.aload_n 0, 1) := by decide +kernel
theorem dX7_inTime_24 : decode cX7_inTime 24 = .ok (.bipush 6, 2) := by decide +kernel
theorem dX7_inTime_26 : decode cX7_inTime 26 = .ok (.invokevirtual 99, 3) := by decide +kernel
theorem dX7_inTime_29 : decode cX7_inTime 29 = .ok (.goto 18, 3) := by decide +kernel
theorem dX7_inTime_32 : decode cX7_inTime 32 = .ok (.aload_n 0, 1) := by decide +kernel
theorem dX7_inTime_33 : decode cX7_inTime 33 = .ok (.aload_n 0, 1) := by decide +kernel
theorem dX7_inTime_34 : decode cX7_inTime 34 = .ok (.aload_n 0, 1) := by decide +kernel
theorem dX7_inTime_35 : decode cX7_inTime 35 = .ok (.getfield 44, 3) := by decide +kernel
theorem dX7_inTime_38 : decode cX7_inTime 38 = .ok (.getfield 243, 3) := by decide +kernel
theorem dX7_inTime_41 : decode cX7_inTime 41 = .ok (.invokevirtual 254, 3) := by decide +kernel
theorem dX7_inTime_44 : decode cX7_inTime 44 = .ok (.invokevirtual 130, 3) := by decide +kernel
theorem dX7_inTime_47 : decode cX7_inTime 47 = .ok (.ireturn, 1) := by decide +kernel
theorem dX7_bestBand_0 : decode cX7_bestBand 0 = .ok (.aload_n 0, 1) := by decide +kernel
theorem dX7_bestBand_1 : decode cX7_bestBand 1 = .ok (.getfield 78, 3) := by decide +kernel
theorem dX7_bestBand_4 : decode cX7_bestBand 4 = .ok (.ifCond .ne 9, 3) := by decide +kernel
theorem dX7_bestBand_7 : decode cX7_bestBand 7 = .ok (.aload_n 0, 1) := by decide +kernel
theorem dX7_bestBand_8 : decode cX7_bestBand 8 = .ok (.iconst 1, 1) := by decide +kernel
theorem dX7_bestBand_9 : decode cX7_bestBand 9 = .ok (.invokevirtual 99, 3) := by decide +kernel
theorem dX7_bestBand_12 : decode cX7_bestBand 12 = .ok (.ireturn, 1) := by decide +kernel
theorem dX7_bestBand_13 : decode cX7_bestBand 13 = .ok (.aload_n 0, 1) := by decide +kernel
theorem dX7_bestBand_14 : decode cX7_bestBand 14 = .ok (.getfield 44, 3) := by decide +kernel
theorem dX7_bestBand_17 : decode cX7_bestBand 17 = .ok (.getfield 243, 3) := by decide +kernel
theorem dX7_bestBand_20 : decode cX7_bestBand 20 = .ok (.ifCond .ge 10, 3) := by decide +kernel
theorem dX7_bestBand_23 : decode cX7_bestBand 23 = .ok (.aload_n 0, 1) := by decide +kernel
theorem dX7_bestBand_24 : decode cX7_bestBand 24 = .ok (.bipush 6, 2) := by decide +kernel
theorem dX7_bestBand_26 : decode cX7_bestBand 26 = .ok (.invokevirtual 99, 3) := by decide +kernel
theorem dX7_bestBand_29 : decode cX7_bestBand 29 = .ok (.ireturn, 1) := by decide +kernel
theorem dX7_bestBand_30 : decode cX7_bestBand 30 = .ok (.iconst 0, 1) := by decide +kernel
theorem dX7_bestBand_31 : decode cX7_bestBand 31 = .ok (.istore_n 1, 1) := by decide +kernel
theorem dX7_bestBand_32 : decode cX7_bestBand 32 = .ok (.iconst (-1), 1) := by decide +kernel
theorem dX7_bestBand_33 : decode cX7_bestBand 33 = .ok (.istore_n 2, 1) := by decide +kernel
theorem dX7_bestBand_34 : decode cX7_bestBand 34 = .ok (.iconst 0, 1) := by decide +kernel
theorem dX7_bestBand_35 : decode cX7_bestBand 35 = .ok (.istore_n 3, 1) := by decide +kernel
theorem dX7_bestBand_36 : decode cX7_bestBand 36 = .ok (.iload_n 3, 1) := by decide +kernel
theorem dX7_bestBand_37 : decode cX7_bestBand 37 = .ok (.aload_n 0, 1) := by decide +kernel
theorem dX7_bestBand_38 : decode cX7_bestBand 38 = .ok (.getfield 25, 3) := by decide +kernel
theorem dX7_bestBand_41 : decode cX7_bestBand 41 = .ok (.getfield 137, 3) := by decide +kernel
theorem dX7_bestBand_44 : decode cX7_bestBand 44 = .ok (.invokevirtual 92, 3) := by decide +kernel
theorem dX7_bestBand_47 : decode cX7_bestBand 47 = .ok (.if_icmp .ge 47, 3) := by decide +kernel
theorem dX7_bestBand_50 : decode cX7_bestBand 50 = .ok (.aload_n 0, 1) := by decide +kernel
theorem dX7_bestBand_51 : decode cX7_bestBand 51 = .ok (.getfield 25, 3) := by decide +kernel
theorem dX7_bestBand_54 : decode cX7_bestBand 54 = .ok (.getfield 137, 3) := by decide +kernel
theorem dX7_bestBand_57 : decode cX7_bestBand 57 = .ok (.iload_n 3, 1) := by decide +kernel
theorem dX7_bestBand_58 : decode cX7_bestBand 58 = .ok (.iconst 0, 1) := by decide +kernel
theorem dX7_bestBand_59 : decode cX7_bestBand 59 = .ok (.invokevirtual 140, 3) := by decide +kernel
theorem dX7_bestBand_62 : decode cX7_bestBand 62 = .ok (.iconst 2, 1) := by decide +kernel
theorem dX7_bestBand_63 : decode cX7_bestBand 63 = .ok (.if_icmp .ne 7, 3) := by decide +kernel
theorem dX7_bestBand_66 : decode cX7_bestBand 66 = .ok (.iconst (-1), 1) := by decide +kernel
theorem dX7_bestBand_67 : decode cX7_bestBand 67 = .ok (.goto 8, 3) := by decide +kernel
theorem dX7_bestBand_70 : decode cX7_bestBand 70 = .ok (.aload_n 0, 1) := by decide +kernel
theorem dX7_bestBand_71 : decode cX7_bestBand 71 = .ok (.iload_n 3, 1) := by decide +kernel
theorem dX7_bestBand_72 : decode cX7_bestBand 72 = .ok (.invokevirtual 254, 3) := by decide +kernel
theorem dX7_bestBand_75 : decode cX7_bestBand 75 = .ok (.istore 4, 2) := by decide +kernel
theorem dX7_bestBand_77 : decode cX7_bestBand 77 = .ok (.iload 4, 2) := by decide +kernel
theorem dX7_bestBand_79 : decode cX7_bestBand 79 = .ok (.iload_n 2, 1) := by decide +kernel
theorem dX7_bestBand_80 : decode cX7_bestBand 80 = .ok (.if_icmp .le 8, 3) := by decide +kernel
theorem dX7_bestBand_83 : decode cX7_bestBand 83 = .ok (.iload 4, 2) := by decide +kernel
theorem dX7_bestBand_85 : decode cX7_bestBand 85 = .ok (.istore_n 2, 1) := by decide +kernel
theorem dX7_bestBand_86 : decode cX7_bestBand 86 = .ok (.iload_n 3, 1) := by decide +kernel
theorem dX7_bestBand_87 : decode cX7_bestBand 87 = .ok (.istore_n 1, 1) := by decide +kernel
theorem dX7_bestBand_88 : decode cX7_bestBand 88 = .ok (.iinc 3 1, 3) := by decide +kernel
theorem dX7_bestBand_91 : decode cX7_bestBand 91 = .ok (.goto (-55), 3) := by decide +kernel
theorem dX7_bestBand_94 : decode cX7_bestBand 94 = .ok (.aload_n 0, 1) := by decide +kernel
theorem dX7_bestBand_95 : decode cX7_bestBand 95 = .ok (.iload_n 1, 1) := by decide +kernel
theorem dX7_bestBand_96 : decode cX7_bestBand 96 = .ok (.invokevirtual 130, 3) := by decide +kernel
theorem dX7_bestBand_99 : decode cX7_bestBand 99 = .ok (.ireturn, 1) := by decide +kernel
theorem dX7_out_0 : decode cX7_out 0 = .ok (.aload_n 0, 1) := by decide +kernel
theorem dX7_out_1 : decode cX7_out 1 = .ok (.getfield 78, 3) := by decide +kernel
theorem dX7_out_4 : decode cX7_out 4 = .ok (.ifCond .ne 9, 3) := by decide +kernel
theorem dX7_out_7 : decode cX7_out 7 = .ok (.aload_n 0, 1) := by decide +kernel
theorem dX7_out_8 : decode cX7_out 8 = .ok (.iconst 1, 1) := by decide +kernel
theorem dX7_out_9 : decode cX7_out 9 = .ok (.invokevirtual 99, 3) := by decide +kernel
theorem dX7_out_12 : decode cX7_out 12 = .ok (.ireturn, 1) := by decide +kernel
theorem dX7_out_13 : decode cX7_out 13 = .ok (.aload_n 0, 1) := by decide +kernel
theorem dX7_out_14 : decode cX7_out 14 = .ok (.getfield 25, 3) := by decide +kernel
theorem dX7_out_17 : decode cX7_out 17 = .ok (.getfield 257, 3) := by decide +kernel
theorem dX7_out_20 : decode cX7_out 20 = .ok (.ifCond .ge 10, 3) := by decide +kernel
theorem dX7_out_23 : decode cX7_out 23 = .ok (.aload_n 0, 1) := by decide +kernel
theorem dX7_out_24 : decode cX7_out 24 = .ok (.bipush 6, 2) := by decide +kernel
theorem dX7_out_26 : decode cX7_out 26 = .ok (.invokevirtual 99, 3) := by decide +kernel
theorem dX7_out_29 : decode cX7_out 29 = .ok (.ireturn, 1) := by decide +kernel
theorem dX7_out_30 : decode cX7_out 30 = .ok (.aload_n 0, 1) := by decide +kernel
theorem dX7_out_31 : decode cX7_out 31 = .ok (.getfield 44, 3) := by decide +kernel
theorem dX7_out_34 : decode cX7_out 34 = .ok (.aload_n 0, 1) := by decide +kernel
theorem dX7_out_35 : decode cX7_out 35 = .ok (.getfield 25, 3) := by decide +kernel
theorem dX7_out_38 : decode cX7_out 38 = .ok (.getfield 137, 3) := by decide +kernel
theorem dX7_out_41 : decode cX7_out 41 = .ok (.invokevirtual 92, 3) := by decide +kernel
theorem dX7_out_44 : decode cX7_out 44 = .ok (.aload_n 0, 1) := by decide +kernel
theorem dX7_out_45 : decode cX7_out 45 = .ok (.getfield 75, 3) := by decide +kernel
theorem dX7_out_48 : decode cX7_out 48 = .ok (.invokevirtual 260, 3) := by decide +kernel
theorem dX7_out_51 : decode cX7_out 51 = .ok (.aload_n 0, 1) := by decide +kernel
theorem dX7_out_52 : decode cX7_out 52 = .ok (.getfield 25, 3) := by decide +kernel
theorem dX7_out_55 : decode cX7_out 55 = .ok (.aload_n 0, 1) := by decide +kernel
theorem dX7_out_56 : decode cX7_out 56 = .ok (.getfield 44, 3) := by decide +kernel
theorem dX7_out_59 : decode cX7_out 59 = .ok (.iconst 0, 1) := by decide +kernel
theorem dX7_out_60 : decode cX7_out 60 = .ok (.invokevirtual 146, 3) := by decide +kernel
theorem dX7_out_63 : decode cX7_out 63 = .ok (.aload_n 0, 1) := by decide +kernel
theorem dX7_out_64 : decode cX7_out 64 = .ok (.getfield 75, 3) := by decide +kernel
theorem dX7_out_67 : decode cX7_out 67 = .ok (.invokevirtual 264, 3) := by decide +kernel
theorem dX7_out_70 : decode cX7_out 70 = .ok (.aload_n 0, 1) := by decide +kernel
theorem dX7_out_71 : decode cX7_out 71 = .ok (.getfield 75, 3) := by decide +kernel
theorem dX7_out_74 : decode cX7_out 74 = .ok (.aload_n 0, 1) := by decide +kernel
theorem dX7_out_75 : decode cX7_out 75 = .ok (.getfield 25, 3) := by decide +kernel
theorem dX7_out_78 : decode cX7_out 78 = .ok (.getfield 257, 3) := by decide +kernel
theorem dX7_out_81 : decode cX7_out 81 = .ok (.iconst 0, 1) := by decide +kernel
theorem dX7_out_82 : decode cX7_out 82 = .ok (.invokevirtual 140, 3) := by decide +kernel
theorem dX7_out_85 : decode cX7_out 85 = .ok (.istore_n 1, 1) := by decide +kernel
theorem dX7_out_86 : decode cX7_out 86 = .ok (.aload_n 0, 1) := by decide +kernel
theorem dX7_out_87 : decode cX7_out 87 = .ok (.iload_n 1, 1) := by decide +kernel
theorem dX7_out_88 : decode cX7_out 88 = .ok (.ifCond .ge 8, 3) := by decide +kernel
theorem dX7_out_91 : decode cX7_out 91 = .ok (.bipush (-2), 2) := by decide +kernel
theorem dX7_out_93 : decode cX7_out 93 = .ok (.goto 4, 3) := by decide +kernel
theorem dX7_out_96 : decode cX7_out 96 = .ok (.iload_n 1, 1) := by decide +kernel
theorem dX7_out_97 : decode cX7_out 97 = .ok (.invokevirtual 130, 3) := by decide +kernel
theorem dX7_out_100 : decode cX7_out 100 = .ok (.ireturn, 1) := by decide +kernel
theorem dX7_fits_0 : decode cX7_fits 0 = .ok (.aload_n 0, 1) := by decide +kernel
theorem dX7_fits_1 : decode cX7_fits 1 = .ok (.getfield 78, 3) := by decide +kernel
theorem dX7_fits_4 : decode cX7_fits 4 = .ok (.ifCond .ne 9, 3) := by decide +kernel
theorem dX7_fits_7 : decode cX7_fits 7 = .ok (.aload_n 0, 1) := by decide +kernel
theorem dX7_fits_8 : decode cX7_fits 8 = .ok (.iconst 1, 1) := by decide +kernel
theorem dX7_fits_9 : decode cX7_fits 9 = .ok (.invokevirtual 99, 3) := by decide +kernel
theorem dX7_fits_12 : decode cX7_fits 12 = .ok (.ireturn, 1) := by decide +kernel
theorem dX7_fits_13 : decode cX7_fits 13 = .ok (.iconst 0, 1) := by decide +kernel
theorem dX7_fits_14 : decode cX7_fits 14 = .ok (.istore_n 1, 1) := by decide +kernel
theorem dX7_fits_15 : decode cX7_fits 15 = .ok (.iconst 0, 1) := by decide +kernel
theorem dX7_fits_16 : decode cX7_fits 16 = .ok (.istore_n 2, 1) := by decide +kernel
theorem dX7_fits_17 : decode cX7_fits 17 = .ok (.iload_n 2, 1) := by decide +kernel
theorem dX7_fits_18 : decode cX7_fits 18 = .ok (.iconst 4, 1) := by decide +kernel
theorem dX7_fits_19 : decode cX7_fits 19 = .ok (.if_icmp .gt 53, 3) := by decide +kernel
theorem dX7_fits_22 : decode cX7_fits 22 = .ok (.aload_n 0, 1) := by decide +kernel
theorem dX7_fits_23 : decode cX7_fits 23 = .ok (.getfield 52, 3) := by decide +kernel
theorem dX7_fits_26 : decode cX7_fits 26 = .ok (.aload_n 0, 1) := by decide +kernel
theorem dX7_fits_27 : decode cX7_fits 27 = .ok (.getfield 40, 3) := by decide +kernel
theorem dX7_fits_30 : decode cX7_fits 30 = .ok (.invokevirtual 211, 3) := by decide +kernel
theorem dX7_fits_33 : decode cX7_fits 33 = .ok (.aload_n 0, 1) := by decide +kernel
theorem dX7_fits_34 : decode cX7_fits 34 = .ok (.getfield 52, 3) := by decide +kernel
theorem dX7_fits_37 : decode cX7_fits 37 = .ok (.getfield 170, 3) := by decide +kernel
theorem dX7_fits_40 : decode cX7_fits 40 = .ok (.iload_n 2, 1) := by decide +kernel
theorem dX7_fits_41 : decode cX7_fits 41 = .ok (.putfield 226, 3) := by decide +kernel
theorem dX7_fits_44 : decode cX7_fits 44 = .ok (.iload_n 1, 1) := by decide +kernel
theorem dX7_fits_45 : decode cX7_fits 45 = .ok (.aload_n 0, 1) := by decide +kernel
theorem dX7_fits_46 : decode cX7_fits 46 = .ok (.getfield 52, 3) := by decide +kernel
theorem dX7_fits_49 : decode cX7_fits 49 = .ok (.bipush 40, 2) := by decide +kernel
theorem dX7_fits_51 : decode cX7_fits 51 = .ok (.invokevirtual 267, 3) := by decide +kernel
theorem dX7_fits_54 : decode cX7_fits 54 = .ok (.ifCond .eq 9, 3) := by decide +kernel
theorem dX7_fits_57 : decode cX7_fits 57 = .ok (.iconst 1, 1) := by decide +kernel
theorem dX7_fits_58 : decode cX7_fits 58 = .ok (.iload_n 2, 1) := by decide +kernel
theorem dX7_fits_59 : decode cX7_fits 59 = .ok (.ishl, 1) := by decide +kernel
theorem dX7_fits_60 : decode cX7_fits 60 = .ok (.goto 4, 3) := by decide +kernel
theorem dX7_fits_63 : decode cX7_fits 63 = .ok (.iconst 0, 1) := by decide +kernel
theorem dX7_fits_64 : decode cX7_fits 64 = .ok (.ior, 1) := by decide +kernel
theorem dX7_fits_65 : decode cX7_fits 65 = .ok (.istore_n 1, 1) := by decide +kernel
theorem dX7_fits_66 : decode cX7_fits 66 = .ok (.iinc 2 1, 3) := by decide +kernel
theorem dX7_fits_69 : decode cX7_fits 69 = .ok (.goto (-52), 3) := by decide +kernel
theorem dX7_fits_72 : decode cX7_fits 72 = .ok (.aload_n 0, 1) := by decide +kernel
theorem dX7_fits_73 : decode cX7_fits 73 = .ok (.iload_n 1, 1) := by decide +kernel
theorem dX7_fits_74 : decode cX7_fits 74 = .ok (.invokevirtual 130, 3) := by decide +kernel
theorem dX7_fits_77 : decode cX7_fits 77 = .ok (.ireturn, 1) := by decide +kernel
theorem dX7_dance_0 : decode cX7_dance 0 = .ok (.aload_n 0, 1) := by decide +kernel
theorem dX7_dance_1 : decode cX7_dance 1 = .ok (.getfield 78, 3) := by decide +kernel
theorem dX7_dance_4 : decode cX7_dance 4 = .ok (.ifCond .ne 9, 3) := by decide +kernel
theorem dX7_dance_7 : decode cX7_dance 7 = .ok (.aload_n 0, 1) := by decide +kernel
theorem dX7_dance_8 : decode cX7_dance 8 = .ok (.iconst 1, 1) := by decide +kernel
theorem dX7_dance_9 : decode cX7_dance 9 = .ok (.invokevirtual 99, 3) := by decide +kernel
theorem dX7_dance_12 : decode cX7_dance 12 = .ok (.ireturn, 1) := by decide +kernel
theorem dX7_dance_13 : decode cX7_dance 13 = .ok (.iload_n 1, 1) := by decide +kernel
theorem dX7_dance_14 : decode cX7_dance 14 = .ok (.iconst 1, 1) := by decide +kernel
theorem dX7_dance_15 : decode cX7_dance 15 = .ok (.if_icmp .lt 9, 3) := by decide +kernel
theorem dX7_dance_18 : decode cX7_dance 18 = .ok (.iload_n 1, 1) := by decide +kernel
theorem dX7_dance_19 : decode cX7_dance 19 = .ok (.bipush 20, 2) := by decide +kernel
theorem dX7_dance_21 : decode cX7_dance 21 = .ok (.if_icmp .le 9, 3) := by decide +kernel
theorem dX7_dance_24 : decode cX7_dance 24 = .ok (.aload_n 0, 1) := by decide +kernel
theorem dX7_dance_25 : decode cX7_dance 25 = .ok (.iconst 2, 1) := by decide +kernel
theorem dX7_dance_26 : decode cX7_dance 26 = .ok (.invokevirtual 99, 3) := by decide +kernel
theorem dX7_dance_29 : decode cX7_dance 29 = .ok (.ireturn, 1) := by decide +kernel
theorem dX7_dance_30 : decode cX7_dance 30 = .ok (.aload_n 0, 1) := by decide +kernel
theorem dX7_dance_31 : decode cX7_dance 31 = .ok (.getfield 44, 3) := by decide +kernel
theorem dX7_dance_34 : decode cX7_dance 34 = .ok (.getfield 164, 3) := by decide +kernel
theorem dX7_dance_37 : decode cX7_dance 37 = .ok (.ifCond .eq 9, 3) := by decide +kernel
theorem dX7_dance_40 : decode cX7_dance 40 = .ok (.aload_n 0, 1) := by decide +kernel
theorem dX7_dance_41 : decode cX7_dance 41 = .ok (.iconst 5, 1) := by decide +kernel
theorem dX7_dance_42 : decode cX7_dance 42 = .ok (.invokevirtual 99, 3) := by decide +kernel
theorem dX7_dance_45 : decode cX7_dance 45 = .ok (.ireturn, 1) := by decide +kernel
theorem dX7_dance_46 : decode cX7_dance 46 = .ok (.aload_n 0, 1) := by decide +kernel
theorem dX7_dance_47 : decode cX7_dance 47 = .ok (.getfield 61, 3) := by decide +kernel
theorem dX7_dance_50 : decode cX7_dance 50 = .ok (.aload_n 0, 1) := by decide +kernel
theorem dX7_dance_51 : decode cX7_dance 51 = .ok (.getfield 44, 3) := by decide +kernel
theorem dX7_dance_54 : decode cX7_dance 54 = .ok (.invokevirtual 270, 3) := by decide +kernel
theorem dX7_dance_57 : decode cX7_dance 57 = .ok (.aload_n 0, 1) := by decide +kernel
theorem dX7_dance_58 : decode cX7_dance 58 = .ok (.getfield 52, 3) := by decide +kernel
theorem dX7_dance_61 : decode cX7_dance 61 = .ok (.aload_n 0, 1) := by decide +kernel
theorem dX7_dance_62 : decode cX7_dance 62 = .ok (.getfield 44, 3) := by decide +kernel
theorem dX7_dance_65 : decode cX7_dance 65 = .ok (.invokevirtual 211, 3) := by decide +kernel
theorem dX7_dance_68 : decode cX7_dance 68 = .ok (.aload_n 0, 1) := by decide +kernel
theorem dX7_dance_69 : decode cX7_dance 69 = .ok (.getfield 52, 3) := by decide +kernel
theorem dX7_dance_72 : decode cX7_dance 72 = .ok (.iload_n 1, 1) := by decide +kernel
theorem dX7_dance_73 : decode cX7_dance 73 = .ok (.invokevirtual 217, 3) := by decide +kernel
theorem dX7_dance_76 : decode cX7_dance 76 = .ok (.aload_n 0, 1) := by decide +kernel
theorem dX7_dance_77 : decode cX7_dance 77 = .ok (.getfield 44, 3) := by decide +kernel
theorem dX7_dance_80 : decode cX7_dance 80 = .ok (.aload_n 0, 1) := by decide +kernel
theorem dX7_dance_81 : decode cX7_dance 81 = .ok (.getfield 52, 3) := by decide +kernel
theorem dX7_dance_84 : decode cX7_dance 84 = .ok (.getfield 170, 3) := by decide +kernel
theorem dX7_dance_87 : decode cX7_dance 87 = .ok (.invokevirtual 121, 3) := by decide +kernel
theorem dX7_dance_90 : decode cX7_dance 90 = .ok (.aload_n 0, 1) := by decide +kernel
theorem dX7_dance_91 : decode cX7_dance 91 = .ok (.aload_n 0, 1) := by decide +kernel
theorem dX7_dance_92 : decode cX7_dance 92 = .ok (.getfield 44, 3) := by decide +kernel
theorem dX7_dance_95 : decode cX7_dance 95 = .ok (.getfield 127, 3) := by decide +kernel
theorem dX7_dance_98 : decode cX7_dance 98 = .ok (.invokevirtual 92, 3) := by decide +kernel
theorem dX7_dance_101 : decode cX7_dance 101 = .ok (.invokevirtual 130, 3) := by decide +kernel
theorem dX7_dance_104 : decode cX7_dance 104 = .ok (.ireturn, 1) := by decide +kernel
theorem dX7_lead_0 : decode cX7_lead 0 = .ok (.aload_n 0, 1) := by decide +kernel
theorem dX7_lead_1 : decode cX7_lead 1 = .ok (.getfield 78, 3) := by decide +kernel
theorem dX7_lead_4 : decode cX7_lead 4 = .ok (.ifCond .eq 12, 3) := by decide +kernel
theorem dX7_lead_7 : decode cX7_lead 7 = .ok (.iload_n 1, 1) := by decide +kernel
theorem dX7_lead_8 : decode cX7_lead 8 = .ok (.ifCond .lt 8, 3) := by decide +kernel
theorem dX7_lead_11 : decode cX7_lead 11 = .ok (.iload_n 1, 1) := by decide +kernel
theorem dX7_lead_12 : decode cX7_lead 12 = .ok (.iconst 4, 1) := by decide +kernel
theorem dX7_lead_13 : decode cX7_lead 13 = .ok (.if_icmp .le 9, 3) := by decide +kernel
theorem dX7_lead_16 : decode cX7_lead 16 = .ok (.aload_n 0, 1) := by decide +kernel
theorem dX7_lead_17 : decode cX7_lead 17 = .ok (.iconst 1, 1) := by decide +kernel
theorem dX7_lead_18 : decode cX7_lead 18 = .ok (.invokevirtual 273, 3) := by decide +kernel
theorem dX7_lead_21 : decode cX7_lead 21 = .ok (.ireturn, 1) := by decide +kernel
theorem dX7_lead_22 : decode cX7_lead 22 = .ok (.aload_n 0, 1) := by decide +kernel
theorem dX7_lead_23 : decode cX7_lead 23 = .ok (.getfield 44, 3) := by decide +kernel
theorem dX7_lead_26 : decode cX7_lead 26 = .ok (.getfield 226, 3) := by decide +kernel
theorem dX7_lead_29 : decode cX7_lead 29 = .ok (.iload_n 1, 1) := by decide +kernel
theorem dX7_lead_30 : decode cX7_lead 30 = .ok (.if_icmp .ne 9, 3) := by decide +kernel
theorem dX7_lead_33 : decode cX7_lead 33 = .ok (.aload_n 0, 1) := by decide +kernel
theorem dX7_lead_34 : decode cX7_lead 34 = .ok (.iconst 5, 1) := by decide +kernel
theorem dX7_lead_35 : decode cX7_lead 35 = .ok (.invokevirtual 273, 3) := by decide +kernel
theorem dX7_lead_38 : decode cX7_lead 38 = .ok (.ireturn, 1) := by decide +kernel
theorem dX7_lead_39 : decode cX7_lead 39 = .ok (.aload_n 0, 1) := by decide +kernel
theorem dX7_lead_40 : decode cX7_lead 40 = .ok (.getfield 61, 3) := by decide +kernel
theorem dX7_lead_43 : decode cX7_lead 43 = .ok (.aload_n 0, 1) := by decide +kernel
theorem dX7_lead_44 : decode cX7_lead 44 = .ok (.getfield 44, 3) := by decide +kernel
theorem dX7_lead_47 : decode cX7_lead 47 = .ok (.invokevirtual 270, 3) := by decide +kernel
theorem dX7_lead_50 : decode cX7_lead 50 = .ok (.aload_n 0, 1) := by decide +kernel
theorem dX7_lead_51 : decode cX7_lead 51 = .ok (.getfield 44, 3) := by decide +kernel
theorem dX7_lead_54 : decode cX7_lead 54 = .ok (.iload_n 1, 1) := by decide +kernel
theorem dX7_lead_55 : decode cX7_lead 55 = .ok (.putfield 226, 3) := by decide +kernel
theorem dX7_lead_58 : decode cX7_lead 58 = .ok (.aload_n 0, 1) := by decide +kernel
theorem dX7_lead_59 : decode cX7_lead 59 = .ok (.invokevirtual 276, 3) := by decide +kernel
theorem dX7_lead_62 : decode cX7_lead 62 = .ok (.ireturn, 1) := by decide +kernel
theorem dX7_change_0 : decode cX7_change 0 = .ok (.iload_n 1, 1) := by decide +kernel
theorem dX7_change_1 : decode cX7_change 1 = .ok (.iconst 1, 1) := by decide +kernel
theorem dX7_change_2 : decode cX7_change 2 = .ok (.if_icmp .lt 29, 3) := by decide +kernel
theorem dX7_change_5 : decode cX7_change 5 = .ok (.iload_n 2, 1) := by decide +kernel
theorem dX7_change_6 : decode cX7_change 6 = .ok (.iconst 1, 1) := by decide +kernel
theorem dX7_change_7 : decode cX7_change 7 = .ok (.if_icmp .lt 24, 3) := by decide +kernel
theorem dX7_change_10 : decode cX7_change 10 = .ok (.iload_n 1, 1) := by decide +kernel
theorem dX7_change_11 : decode cX7_change 11 = .ok (.iload_n 2, 1) := by decide +kernel
theorem dX7_change_12 : decode cX7_change 12 = .ok (.if_icmp .eq 19, 3) := by decide +kernel
theorem dX7_change_15 : decode cX7_change 15 = .ok (.aload_n 0, 1) := by decide +kernel
theorem dX7_change_16 : decode cX7_change 16 = .ok (.iload_n 1, 1) := by decide +kernel
theorem dX7_change_17 : decode cX7_change 17 = .ok (.invokevirtual 143, 3) := by decide +kernel
theorem dX7_change_20 : decode cX7_change 20 = .ok (.ifCond .eq 11, 3) := by decide +kernel
theorem dX7_change_23 : decode cX7_change 23 = .ok (.aload_n 0, 1) := by decide +kernel
theorem dX7_change_24 : decode cX7_change 24 = .ok (.iload_n 2, 1) := by decide +kernel
theorem dX7_change_25 : decode cX7_change 25 = .ok (.invokevirtual 143, 3) := by decide +kernel
theorem dX7_change_28 : decode cX7_change 28 = .ok (.ifCond .ne 9, 3) := by decide +kernel
theorem dX7_change_31 : decode cX7_change 31 = .ok (.aload_n 0, 1) := by decide +kernel
theorem dX7_change_32 : decode cX7_change 32 = .ok (.iconst 1, 1) := by decide +kernel
theorem dX7_change_33 : decode cX7_change 33 = .ok (.invokevirtual 273, 3) := by decide +kernel
theorem dX7_change_36 : decode cX7_change 36 = .ok (.ireturn, 1) := by decide +kernel
theorem dX7_change_37 : decode cX7_change 37 = .ok (.aload_n 0, 1) := by decide +kernel
theorem dX7_change_38 : decode cX7_change 38 = .ok (.getfield 61, 3) := by decide +kernel
theorem dX7_change_41 : decode cX7_change 41 = .ok (.aload_n 0, 1) := by decide +kernel
theorem dX7_change_42 : decode cX7_change 42 = .ok (.getfield 44, 3) := by decide +kernel
theorem dX7_change_45 : decode cX7_change 45 = .ok (.invokevirtual 270, 3) := by decide +kernel
theorem dX7_change_48 : decode cX7_change 48 = .ok (.aload_n 0, 1) := by decide +kernel
theorem dX7_change_49 : decode cX7_change 49 = .ok (.getfield 52, 3) := by decide +kernel
theorem dX7_change_52 : decode cX7_change 52 = .ok (.getfield 170, 3) := by decide +kernel
theorem dX7_change_55 : decode cX7_change 55 = .ok (.aload_n 0, 1) := by decide +kernel
theorem dX7_change_56 : decode cX7_change 56 = .ok (.getfield 44, 3) := by decide +kernel
theorem dX7_change_59 : decode cX7_change 59 = .ok (.invokevirtual 121, 3) := by decide +kernel
theorem dX7_change_62 : decode cX7_change 62 = .ok (.aload_n 0, 1) := by decide +kernel
theorem dX7_change_63 : decode cX7_change 63 = .ok (.getfield 44, 3) := by decide +kernel
theorem dX7_change_66 : decode cX7_change 66 = .ok (.iload_n 1, 1) := by decide +kernel
theorem dX7_change_67 : decode cX7_change 67 = .ok (.aload_n 0, 1) := by decide +kernel
theorem dX7_change_68 : decode cX7_change 68 = .ok (.getfield 52, 3) := by decide +kernel
theorem dX7_change_71 : decode cX7_change 71 = .ok (.getfield 170, 3) := by decide +kernel
theorem dX7_change_74 : decode cX7_change 74 = .ok (.iload_n 2, 1) := by decide +kernel
theorem dX7_change_75 : decode cX7_change 75 = .ok (.invokevirtual 280, 3) := by decide +kernel
theorem dX7_change_78 : decode cX7_change 78 = .ok (.aload_n 0, 1) := by decide +kernel
theorem dX7_change_79 : decode cX7_change 79 = .ok (.getfield 44, 3) := by decide +kernel
theorem dX7_change_82 : decode cX7_change 82 = .ok (.iload_n 2, 1) := by decide +kernel
theorem dX7_change_83 : decode cX7_change 83 = .ok (.aload_n 0, 1) := by decide +kernel
theorem dX7_change_84 : decode cX7_change 84 = .ok (.getfield 52, 3) := by decide +kernel
theorem dX7_change_87 : decode cX7_change 87 = .ok (.getfield 170, 3) := by decide +kernel
theorem dX7_change_90 : decode cX7_change 90 = .ok (.iload_n 1, 1) := by decide +kernel
theorem dX7_change_91 : decode cX7_change 91 = .ok (.invokevirtual 280, 3) := by decide +kernel
theorem dX7_change_94 : decode cX7_change 94 = .ok (.aload_n 0, 1) := by decide +kernel
theorem dX7_change_95 : decode cX7_change 95 = .ok (.invokevirtual 276, 3) := by decide +kernel
theorem dX7_change_98 : decode cX7_change 98 = .ok (.ireturn, 1) := by decide +kernel
theorem dX7_letGo_0 : decode cX7_letGo 0 = .ok (.aload_n 0, 1) := by decide +kernel
theorem dX7_letGo_1 : decode cX7_letGo 1 = .ok (.iload_n 1, 1) := by decide +kernel
theorem dX7_letGo_2 : decode cX7_letGo 2 = .ok (.invokevirtual 143, 3) := by decide +kernel
theorem dX7_letGo_5 : decode cX7_letGo 5 = .ok (.ifCond .ne 9, 3) := by decide +kernel
theorem dX7_letGo_8 : decode cX7_letGo 8 = .ok (.aload_n 0, 1) := by decide +kernel
theorem dX7_letGo_9 : decode cX7_letGo 9 = .ok (.iconst 1, 1) := by decide +kernel
theorem dX7_letGo_10 : decode cX7_letGo 10 = .ok (.invokevirtual 273, 3) := by decide +kernel
theorem dX7_letGo_13 : decode cX7_letGo 13 = .ok (.ireturn, 1) := by decide +kernel
theorem dX7_letGo_14 : decode cX7_letGo 14 = .ok (.iload_n 1, 1) := by decide +kernel
theorem dX7_letGo_15 : decode cX7_letGo 15 = .ok (.ifCond .ne 9, 3) := by decide +kernel
theorem dX7_letGo_18 : decode cX7_letGo 18 = .ok (.aload_n 0, 1) := by decide +kernel
theorem dX7_letGo_19 : decode cX7_letGo 19 = .ok (.iconst 5, 1) := by decide +kernel
theorem dX7_letGo_20 : decode cX7_letGo 20 = .ok (.invokevirtual 273, 3) := by decide +kernel
theorem dX7_letGo_23 : decode cX7_letGo 23 = .ok (.ireturn, 1) := by decide +kernel
theorem dX7_letGo_24 : decode cX7_letGo 24 = .ok (.aload_n 0, 1) := by decide +kernel
theorem dX7_letGo_25 : decode cX7_letGo 25 = .ok (.getfield 61, 3) := by decide +kernel
theorem dX7_letGo_28 : decode cX7_letGo 28 = .ok (.aload_n 0, 1) := by decide +kernel
theorem dX7_letGo_29 : decode cX7_letGo 29 = .ok (.getfield 44, 3) := by decide +kernel
theorem dX7_letGo_32 : decode cX7_letGo 32 = .ok (.invokevirtual 270, 3) := by decide +kernel
theorem dX7_letGo_35 : decode cX7_letGo 35 = .ok (.aload_n 0, 1) := by decide +kernel
theorem dX7_letGo_36 : decode cX7_letGo 36 = .ok (.getfield 44, 3) := by decide +kernel
theorem dX7_letGo_39 : decode cX7_letGo 39 = .ok (.getfield 127, 3) := by decide +kernel
theorem dX7_letGo_42 : decode cX7_letGo 42 = .ok (.iload_n 1, 1) := by decide +kernel
theorem dX7_letGo_43 : decode cX7_letGo 43 = .ok (.invokevirtual 284, 3) := by decide +kernel
theorem dX7_letGo_46 : decode cX7_letGo 46 = .ok (.aload_n 0, 1) := by decide +kernel
theorem dX7_letGo_47 : decode cX7_letGo 47 = .ok (.invokevirtual 276, 3) := by decide +kernel
theorem dX7_letGo_50 : decode cX7_letGo 50 = .ok (.ireturn, 1) := by decide +kernel
theorem dX7_band_0 : decode cX7_band 0 = .ok (.aload_n 0, 1) := by decide +kernel
theorem dX7_band_1 : decode cX7_band 1 = .ok (.iload_n 1, 1) := by decide +kernel
theorem dX7_band_2 : decode cX7_band 2 = .ok (.iload_n 2, 1) := by decide +kernel
theorem dX7_band_3 : decode cX7_band 3 = .ok (.invokevirtual 133, 3) := by decide +kernel
theorem dX7_band_6 : decode cX7_band 6 = .ok (.istore_n 3, 1) := by decide +kernel
theorem dX7_band_7 : decode cX7_band 7 = .ok (.iload_n 3, 1) := by decide +kernel
theorem dX7_band_8 : decode cX7_band 8 = .ok (.ifCond .lt 19, 3) := by decide +kernel
theorem dX7_band_11 : decode cX7_band 11 = .ok (.aload_n 0, 1) := by decide +kernel
theorem dX7_band_12 : decode cX7_band 12 = .ok (.getfield 25, 3) := by decide +kernel
theorem dX7_band_15 : decode cX7_band 15 = .ok (.getfield 137, 3) := by decide +kernel
theorem dX7_band_18 : decode cX7_band 18 = .ok (.iload_n 3, 1) := by decide +kernel
theorem dX7_band_19 : decode cX7_band 19 = .ok (.iconst 0, 1) := by decide +kernel
theorem dX7_band_20 : decode cX7_band 20 = .ok (.invokevirtual 140, 3) := by decide +kernel
theorem dX7_band_23 : decode cX7_band 23 = .ok (.iconst 2, 1) := by decide +kernel
theorem dX7_band_24 : decode cX7_band 24 = .ok (.if_icmp .ne 9, 3) := by decide +kernel
theorem dX7_band_27 : decode cX7_band 27 = .ok (.aload_n 0, 1) := by decide +kernel
theorem dX7_band_28 : decode cX7_band 28 = .ok (.iconst 1, 1) := by decide +kernel
theorem dX7_band_29 : decode cX7_band 29 = .ok (.invokevirtual 273, 3) := by decide +kernel
theorem dX7_band_32 : decode cX7_band 32 = .ok (.ireturn, 1) := by decide +kernel
theorem dX7_band_33 : decode cX7_band 33 = .ok (.aload_n 0, 1) := by decide +kernel
theorem dX7_band_34 : decode cX7_band 34 = .ok (.getfield 44, 3) := by decide +kernel
theorem dX7_band_37 : decode cX7_band 37 = .ok (.getfield 243, 3) := by decide +kernel
theorem dX7_band_40 : decode cX7_band 40 = .ok (.ifCond .ge 10, 3) := by decide +kernel
theorem dX7_band_43 : decode cX7_band 43 = .ok (.aload_n 0, 1) := by decide +kernel
theorem dX7_band_44 : decode cX7_band 44 = .ok (.bipush 6, 2) := by decide +kernel
theorem dX7_band_46 : decode cX7_band 46 = .ok (.invokevirtual 273, 3) := by decide +kernel
theorem dX7_band_49 : decode cX7_band 49 = .ok (.ireturn, 1) := by decide +kernel
theorem dX7_band_50 : decode cX7_band 50 = .ok (.aload_n 0, 1) := by decide +kernel
theorem dX7_band_51 : decode cX7_band 51 = .ok (.getfield 44, 3) := by decide +kernel
theorem dX7_band_54 : decode cX7_band 54 = .ok (.getfield 243, 3) := by decide +kernel
theorem dX7_band_57 : decode cX7_band 57 = .ok (.iload_n 3, 1) := by decide +kernel
theorem dX7_band_58 : decode cX7_band 58 = .ok (.if_icmp .ne 9, 3) := by decide +kernel
theorem dX7_band_61 : decode cX7_band 61 = .ok (.aload_n 0, 1) := by decide +kernel
theorem dX7_band_62 : decode cX7_band 62 = .ok (.iconst 5, 1) := by decide +kernel
theorem dX7_band_63 : decode cX7_band 63 = .ok (.invokevirtual 273, 3) := by decide +kernel
theorem dX7_band_66 : decode cX7_band 66 = .ok (.ireturn, 1) := by decide +kernel
theorem dX7_band_67 : decode cX7_band 67 = .ok (.aload_n 0, 1) := by decide +kernel
theorem dX7_band_68 : decode cX7_band 68 = .ok (.getfield 61, 3) := by decide +kernel
theorem dX7_band_71 : decode cX7_band 71 = .ok (.aload_n 0, 1) := by decide +kernel
theorem dX7_band_72 : decode cX7_band 72 = .ok (.getfield 44, 3) := by decide +kernel
theorem dX7_band_75 : decode cX7_band 75 = .ok (.invokevirtual 270, 3) := by decide +kernel
theorem dX7_band_78 : decode cX7_band 78 = .ok (.aload_n 0, 1) := by decide +kernel
theorem dX7_band_79 : decode cX7_band 79 = .ok (.getfield 44, 3) := by decide +kernel
theorem dX7_band_82 : decode cX7_band 82 = .ok (.iload_n 3, 1) := by decide +kernel
theorem dX7_band_83 : decode cX7_band 83 = .ok (.putfield 243, 3) := by decide +kernel
theorem dX7_band_86 : decode cX7_band 86 = .ok (.aload_n 0, 1) := by decide +kernel
theorem dX7_band_87 : decode cX7_band 87 = .ok (.invokevirtual 276, 3) := by decide +kernel
theorem dX7_band_90 : decode cX7_band 90 = .ok (.ireturn, 1) := by decide +kernel
theorem dX7_seed_0 : decode cX7_seed 0 = .ok (.aload_n 0, 1) := by decide +kernel
theorem dX7_seed_1 : decode cX7_seed 1 = .ok (.getfield 78, 3) := by decide +kernel
theorem dX7_seed_4 : decode cX7_seed 4 = .ok (.ifCond .ne 9, 3) := by decide +kernel
theorem dX7_seed_7 : decode cX7_seed 7 = .ok (.aload_n 0, 1) := by decide +kernel
theorem dX7_seed_8 : decode cX7_seed 8 = .ok (.iconst 1, 1) := by decide +kernel
theorem dX7_seed_9 : decode cX7_seed 9 = .ok (.invokevirtual 273, 3) := by decide +kernel
theorem dX7_seed_12 : decode cX7_seed 12 = .ok (.ireturn, 1) := by decide +kernel
theorem dX7_seed_13 : decode cX7_seed 13 = .ok (.iload_n 1, 1) := by decide +kernel
theorem dX7_seed_14 : decode cX7_seed 14 = .ok (.ifCond .lt 9, 3) := by decide +kernel
theorem dX7_seed_17 : decode cX7_seed 17 = .ok (.iload_n 1, 1) := by decide +kernel
theorem dX7_seed_18 : decode cX7_seed 18 = .ok (.ldc 239, 2) := by decide +kernel
theorem dX7_seed_20 : decode cX7_seed 20 = .ok (.if_icmp .lt 9, 3) := by decide +kernel
theorem dX7_seed_23 : decode cX7_seed 23 = .ok (.aload_n 0, 1) := by decide +kernel
theorem dX7_seed_24 : decode cX7_seed 24 = .ok (.iconst 2, 1) := by decide +kernel
theorem dX7_seed_25 : decode cX7_seed 25 = .ok (.invokevirtual 273, 3) := by decide +kernel
theorem dX7_seed_28 : decode cX7_seed 28 = .ok (.ireturn, 1) := by decide +kernel
theorem dX7_seed_29 : decode cX7_seed 29 = .ok (.aload_n 0, 1) := by decide +kernel
theorem dX7_seed_30 : decode cX7_seed 30 = .ok (.getfield 44, 3) := by decide +kernel
theorem dX7_seed_33 : decode cX7_seed 33 = .ok (.iload_n 1, 1) := by decide +kernel
theorem dX7_seed_34 : decode cX7_seed 34 = .ok (.putfield 240, 3) := by decide +kernel
theorem dX7_seed_37 : decode cX7_seed 37 = .ok (.aload_n 0, 1) := by decide +kernel
theorem dX7_seed_38 : decode cX7_seed 38 = .ok (.invokevirtual 276, 3) := by decide +kernel
theorem dX7_seed_41 : decode cX7_seed 41 = .ok (.ireturn, 1) := by decide +kernel
theorem dX7_undo_0 : decode cX7_undo 0 = .ok (.aload_n 0, 1) := by decide +kernel
theorem dX7_undo_1 : decode cX7_undo 1 = .ok (.getfield 61, 3) := by decide +kernel
theorem dX7_undo_4 : decode cX7_undo 4 = .ok (.aload_n 0, 1) := by decide +kernel
theorem dX7_undo_5 : decode cX7_undo 5 = .ok (.getfield 44, 3) := by decide +kernel
theorem dX7_undo_8 : decode cX7_undo 8 = .ok (.invokevirtual 287, 3) := by decide +kernel
theorem dX7_undo_11 : decode cX7_undo 11 = .ok (.ifCond .eq 10, 3) := by decide +kernel
theorem dX7_undo_14 : decode cX7_undo 14 = .ok (.aload_n 0, 1) := by decide +kernel
theorem dX7_undo_15 : decode cX7_undo 15 = .ok (.invokevirtual 276, 3) := by decide +kernel
theorem dX7_undo_18 : decode cX7_undo 18 = .ok (.goto 9, 3) := by decide +kernel
theorem dX7_undo_21 : decode cX7_undo 21 = .ok (.aload_n 0, 1) := by decide +kernel
theorem dX7_undo_22 : decode cX7_undo 22 = .ok (.bipush 6, 2) := by decide +kernel
theorem dX7_undo_24 : decode cX7_undo 24 = .ok (.invokevirtual 273, 3) := by decide +kernel
theorem dX7_undo_27 : decode cX7_undo 27 = .ok (.ireturn, 1) := by decide +kernel
theorem dX7_mark_0 : decode cX7_mark 0 = .ok (.aload_n 0, 1) := by decide +kernel
theorem dX7_mark_1 : decode cX7_mark 1 = .ok (.getfield 78, 3) := by decide +kernel
theorem dX7_mark_4 : decode cX7_mark 4 = .ok (.ifCond .ne 9, 3) := by decide +kernel
theorem dX7_mark_7 : decode cX7_mark 7 = .ok (.aload_n 0, 1) := by decide +kernel
theorem dX7_mark_8 : decode cX7_mark 8 = .ok (.iconst 1, 1) := by decide +kernel
theorem dX7_mark_9 : decode cX7_mark 9 = .ok (.invokevirtual 99, 3) := by decide +kernel
theorem dX7_mark_12 : decode cX7_mark 12 = .ok (.ireturn, 1) := by decide +kernel
theorem dX7_mark_13 : decode cX7_mark 13 = .ok (.aload_n 0, 1) := by decide +kernel
theorem dX7_mark_14 : decode cX7_mark 14 = .ok (.getfield 65, 3) := by decide +kernel
theorem dX7_mark_17 : decode cX7_mark 17 = .ok (.invokevirtual 291, 3) := by decide +kernel
theorem dX7_mark_20 : decode cX7_mark 20 = .ok (.ifCond .eq 9, 3) := by decide +kernel
theorem dX7_mark_23 : decode cX7_mark 23 = .ok (.aload_n 0, 1) := by decide +kernel
theorem dX7_mark_24 : decode cX7_mark 24 = .ok (.iconst 3, 1) := by decide +kernel
theorem dX7_mark_25 : decode cX7_mark 25 = .ok (.invokevirtual 99, 3) := by decide +kernel
theorem dX7_mark_28 : decode cX7_mark 28 = .ok (.ireturn, 1) := by decide +kernel
theorem dX7_mark_29 : decode cX7_mark 29 = .ok (.aload_n 0, 1) := by decide +kernel
theorem dX7_mark_30 : decode cX7_mark 30 = .ok (.getfield 65, 3) := by decide +kernel
theorem dX7_mark_33 : decode cX7_mark 33 = .ok (.aload_n 0, 1) := by decide +kernel
theorem dX7_mark_34 : decode cX7_mark 34 = .ok (.getfield 44, 3) := by decide +kernel
theorem dX7_mark_37 : decode cX7_mark 37 = .ok (.invokevirtual 270, 3) := by decide +kernel
theorem dX7_mark_40 : decode cX7_mark 40 = .ok (.aload_n 0, 1) := by decide +kernel
theorem dX7_mark_41 : decode cX7_mark 41 = .ok (.aload_n 0, 1) := by decide +kernel
theorem dX7_mark_42 : decode cX7_mark 42 = .ok (.getfield 65, 3) := by decide +kernel
theorem dX7_mark_45 : decode cX7_mark 45 = .ok (.invokevirtual 294, 3) := by decide +kernel
theorem dX7_mark_48 : decode cX7_mark 48 = .ok (.iconst 1, 1) := by decide +kernel
theorem dX7_mark_49 : decode cX7_mark 49 = .ok (.isub, 1) := by decide +kernel
theorem dX7_mark_50 : decode cX7_mark 50 = .ok (.invokevirtual 130, 3) := by decide +kernel
theorem dX7_mark_53 : decode cX7_mark 53 = .ok (.ireturn, 1) := by decide +kernel
theorem dX7_back_0 : decode cX7_back 0 = .ok (.aload_n 0, 1) := by decide +kernel
theorem dX7_back_1 : decode cX7_back 1 = .ok (.getfield 65, 3) := by decide +kernel
theorem dX7_back_4 : decode cX7_back 4 = .ok (.iload_n 1, 1) := by decide +kernel
theorem dX7_back_5 : decode cX7_back 5 = .ok (.aload_n 0, 1) := by decide +kernel
theorem dX7_back_6 : decode cX7_back 6 = .ok (.getfield 44, 3) := by decide +kernel
theorem dX7_back_9 : decode cX7_back 9 = .ok (.invokevirtual 295, 3) := by decide +kernel
theorem dX7_back_12 : decode cX7_back 12 = .ok (.ifCond .ne 9, 3) := by decide +kernel
theorem dX7_back_15 : decode cX7_back 15 = .ok (.aload_n 0, 1) := by decide +kernel
theorem dX7_back_16 : decode cX7_back 16 = .ok (.iconst 1, 1) := by decide +kernel
theorem dX7_back_17 : decode cX7_back 17 = .ok (.invokevirtual 273, 3) := by decide +kernel
theorem dX7_back_20 : decode cX7_back 20 = .ok (.ireturn, 1) := by decide +kernel
theorem dX7_back_21 : decode cX7_back 21 = .ok (.aload_n 0, 1) := by decide +kernel
theorem dX7_back_22 : decode cX7_back 22 = .ok (.getfield 61, 3) := by decide +kernel
theorem dX7_back_25 : decode cX7_back 25 = .ok (.invokevirtual 124, 3) := by decide +kernel
theorem dX7_back_28 : decode cX7_back 28 = .ok (.aload_n 0, 1) := by decide +kernel
theorem dX7_back_29 : decode cX7_back 29 = .ok (.invokevirtual 276, 3) := by decide +kernel
theorem dX7_back_32 : decode cX7_back 32 = .ok (.ireturn, 1) := by decide +kernel
theorem dX7_table_0 : decode cX7_table 0 = .ok (.aload_n 0, 1) := by decide +kernel
theorem dX7_table_1 : decode cX7_table 1 = .ok (.iload_n 1, 1) := by decide +kernel
theorem dX7_table_2 : decode cX7_table 2 = .ok (.invokevirtual 158, 3) := by decide +kernel
theorem dX7_table_5 : decode cX7_table 5 = .ok (.ifCond .eq 16, 3) := by decide +kernel
theorem dX7_table_8 : decode cX7_table 8 = .ok (.iload_n 2, 1) := by decide +kernel
theorem dX7_table_9 : decode cX7_table 9 = .ok (.ifCond .lt 12, 3) := by decide +kernel
theorem dX7_table_12 : decode cX7_table 12 = .ok (.iload_n 2, 1) := by decide +kernel
theorem dX7_table_13 : decode cX7_table 13 = .ok (.iconst 4, 1) := by decide +kernel
theorem dX7_table_14 : decode cX7_table 14 = .ok (.if_icmp .gt 7, 3) := by decide +kernel
theorem dX7_table_17 : decode cX7_table 17 = .ok (.iconst 1, 1) := by decide +kernel
theorem dX7_table_18 : decode cX7_table 18 = .ok (.goto 4, 3) := by decide +kernel
theorem dX7_table_21 : decode cX7_table 21 = .ok (.iconst 0, 1) := by decide +kernel
theorem dX7_table_22 : decode cX7_table 22 = .ok (.istore_n 3, 1) := by decide +kernel
theorem dX7_table_23 : decode cX7_table 23 = .ok (.iload_n 3, 1) := by decide +kernel
theorem dX7_table_24 : decode cX7_table 24 = .ok (.ifCond .eq 22, 3) := by decide +kernel
theorem dX7_table_27 : decode cX7_table 27 = .ok (.aload_n 0, 1) := by decide +kernel
theorem dX7_table_28 : decode cX7_table 28 = .ok (.aload_n 0, 1) := by decide +kernel
theorem dX7_table_29 : decode cX7_table 29 = .ok (.getfield 25, 3) := by decide +kernel
theorem dX7_table_32 : decode cX7_table 32 = .ok (.getfield 299, 3) := by decide +kernel
theorem dX7_table_35 : decode cX7_table 35 = .ok (.iload_n 1, 1) := by decide +kernel
theorem dX7_table_36 : decode cX7_table 36 = .ok (.iload_n 2, 1) := by decide +kernel
theorem dX7_table_37 : decode cX7_table 37 = .ok (.invokevirtual 140, 3) := by decide +kernel
theorem dX7_table_40 : decode cX7_table 40 = .ok (.invokevirtual 130, 3) := by decide +kernel
theorem dX7_table_43 : decode cX7_table 43 = .ok (.goto 8, 3) := by decide +kernel
theorem dX7_table_46 : decode cX7_table 46 = .ok (.aload_n 0, 1) := by decide +kernel
theorem dX7_table_47 : decode cX7_table 47 = .ok (.iconst 1, 1) := by decide +kernel
theorem dX7_table_48 : decode cX7_table 48 = .ok (.invokevirtual 99, 3) := by decide +kernel
theorem dX7_table_51 : decode cX7_table 51 = .ok (.ireturn, 1) := by decide +kernel
theorem dX7_steps_0 : decode cX7_steps 0 = .ok (.aload_n 0, 1) := by decide +kernel
theorem dX7_steps_1 : decode cX7_steps 1 = .ok (.getfield 78, 3) := by decide +kernel
theorem dX7_steps_4 : decode cX7_steps 4 = .ok (.ifCond .eq 25, 3) := by decide +kernel
theorem dX7_steps_7 : decode cX7_steps 7 = .ok (.iload_n 1, 1) := by decide +kernel
theorem dX7_steps_8 : decode cX7_steps 8 = .ok (.ifCond .lt 21, 3) := by decide +kernel
theorem dX7_steps_11 : decode cX7_steps 11 = .ok (.iload_n 1, 1) := by decide +kernel
theorem dX7_steps_12 : decode cX7_steps 12 = .ok (.aload_n 0, 1) := by decide +kernel
theorem dX7_steps_13 : decode cX7_steps 13 = .ok (.getfield 25, 3) := by decide +kernel
theorem dX7_steps_16 : decode cX7_steps 16 = .ok (.getfield 302, 3) := by decide +kernel
theorem dX7_steps_19 : decode cX7_steps 19 = .ok (.invokevirtual 92, 3) := by decide +kernel
theorem dX7_steps_22 : decode cX7_steps 22 = .ok (.if_icmp .ge 7, 3) := by decide +kernel
theorem dX7_steps_25 : decode cX7_steps 25 = .ok (.iconst 1, 1) := by decide +kernel
theorem dX7_steps_26 : decode cX7_steps 26 = .ok (.goto 4, 3) := by decide +kernel
theorem dX7_steps_29 : decode cX7_steps 29 = .ok (.iconst 0, 1) := by decide +kernel
theorem dX7_steps_30 : decode cX7_steps 30 = .ok (.istore_n 2, 1) := by decide +kernel
theorem dX7_steps_31 : decode cX7_steps 31 = .ok (.iload_n 2, 1) := by decide +kernel
theorem dX7_steps_32 : decode cX7_steps 32 = .ok (.ifCond .eq 22, 3) := by decide +kernel
theorem dX7_steps_35 : decode cX7_steps 35 = .ok (.aload_n 0, 1) := by decide +kernel
theorem dX7_steps_36 : decode cX7_steps 36 = .ok (.aload_n 0, 1) := by decide +kernel
theorem dX7_steps_37 : decode cX7_steps 37 = .ok (.getfield 25, 3) := by decide +kernel
theorem dX7_steps_40 : decode cX7_steps 40 = .ok (.getfield 302, 3) := by decide +kernel
theorem dX7_steps_43 : decode cX7_steps 43 = .ok (.iload_n 1, 1) := by decide +kernel
theorem dX7_steps_44 : decode cX7_steps 44 = .ok (.iconst 0, 1) := by decide +kernel
theorem dX7_steps_45 : decode cX7_steps 45 = .ok (.invokevirtual 140, 3) := by decide +kernel
theorem dX7_steps_48 : decode cX7_steps 48 = .ok (.invokevirtual 130, 3) := by decide +kernel
theorem dX7_steps_51 : decode cX7_steps 51 = .ok (.goto 8, 3) := by decide +kernel
theorem dX7_steps_54 : decode cX7_steps 54 = .ok (.aload_n 0, 1) := by decide +kernel
theorem dX7_steps_55 : decode cX7_steps 55 = .ok (.iconst 1, 1) := by decide +kernel
theorem dX7_steps_56 : decode cX7_steps 56 = .ok (.invokevirtual 99, 3) := by decide +kernel
theorem dX7_steps_59 : decode cX7_steps 59 = .ok (.ireturn, 1) := by decide +kernel
theorem dX7_led_0 : decode cX7_led 0 = .ok (.iload_n 1, 1) := by decide +kernel
theorem dX7_led_1 : decode cX7_led 1 = .ok (.istore_n 2, 1) := by decide +kernel
theorem dX7_led_2 : decode cX7_led 2 = .ok (.iconst 0, 1) := by decide +kernel
theorem dX7_led_3 : decode cX7_led 3 = .ok (.istore_n 3, 1) := by decide +kernel
theorem dX7_led_4 : decode cX7_led 4 = .ok (.iload_n 3, 1) := by decide +kernel
theorem dX7_led_5 : decode cX7_led 5 = .ok (.aload_n 0, 1) := by decide +kernel
theorem dX7_led_6 : decode cX7_led 6 = .ok (.getfield 44, 3) := by decide +kernel
theorem dX7_led_9 : decode cX7_led 9 = .ok (.getfield 127, 3) := by decide +kernel
theorem dX7_led_12 : decode cX7_led 12 = .ok (.invokevirtual 92, 3) := by decide +kernel
theorem dX7_led_15 : decode cX7_led 15 = .ok (.if_icmp .ge 55, 3) := by decide +kernel
theorem dX7_led_18 : decode cX7_led 18 = .ok (.aload_n 0, 1) := by decide +kernel
theorem dX7_led_19 : decode cX7_led 19 = .ok (.getfield 25, 3) := by decide +kernel
theorem dX7_led_22 : decode cX7_led 22 = .ok (.getfield 137, 3) := by decide +kernel
theorem dX7_led_25 : decode cX7_led 25 = .ok (.aload_n 0, 1) := by decide +kernel
theorem dX7_led_26 : decode cX7_led 26 = .ok (.getfield 44, 3) := by decide +kernel
theorem dX7_led_29 : decode cX7_led 29 = .ok (.iload_n 3, 1) := by decide +kernel
theorem dX7_led_30 : decode cX7_led 30 = .ok (.invokevirtual 146, 3) := by decide +kernel
theorem dX7_led_33 : decode cX7_led 33 = .ok (.iconst 0, 1) := by decide +kernel
theorem dX7_led_34 : decode cX7_led 34 = .ok (.invokevirtual 140, 3) := by decide +kernel
theorem dX7_led_37 : decode cX7_led 37 = .ok (.iconst 1, 1) := by decide +kernel
theorem dX7_led_38 : decode cX7_led 38 = .ok (.if_icmp .eq 6, 3) := by decide +kernel
theorem dX7_led_41 : decode cX7_led 41 = .ok (.goto 23, 3) := by decide +kernel
theorem dX7_led_44 : decode cX7_led 44 = .ok (.iload_n 2, 1) := by decide +kernel
theorem dX7_led_45 : decode cX7_led 45 = .ok (.ifCond .ne 16, 3) := by decide +kernel
theorem dX7_led_48 : decode cX7_led 48 = .ok (.aload_n 0, 1) := by decide +kernel
theorem dX7_led_49 : decode cX7_led 49 = .ok (.getfield 44, 3) := by decide +kernel
theorem dX7_led_52 : decode cX7_led 52 = .ok (.getfield 127, 3) := by decide +kernel
theorem dX7_led_55 : decode cX7_led 55 = .ok (.iload_n 3, 1) := by decide +kernel
theorem dX7_led_56 : decode cX7_led 56 = .ok (.iconst 0, 1) := by decide +kernel
theorem dX7_led_57 : decode cX7_led 57 = .ok (.invokevirtual 140, 3) := by decide +kernel
theorem dX7_led_60 : decode cX7_led 60 = .ok (.ireturn, 1) := by decide +kernel
theorem dX7_led_61 : decode cX7_led 61 = .ok (.iinc 2 (-1), 3) := by decide +kernel
theorem dX7_led_64 : decode cX7_led 64 = .ok (.iinc 3 1, 3) := by decide +kernel
theorem dX7_led_67 : decode cX7_led 67 = .ok (.goto (-63), 3) := by decide +kernel
theorem dX7_led_70 : decode cX7_led 70 = .ok (.new 305, 3) := by decide +kernel
theorem dX7_led_73 : decode cX7_led 73 = .ok (.dup, 1) := by decide +kernel
theorem dX7_led_74 : decode cX7_led 74 = .ok (.ldc_w 307, 3) := by decide +kernel
theorem dX7_led_77 : decode cX7_led 77 = .ok (.invokespecial 309, 3) := by decide +kernel
theorem dX7_led_80 : decode cX7_led 80 = .ok (.athrow, 1) := by decide +kernel
theorem dX7_size_0 : decode cX7_size 0 = .ok (.iload_n 1, 1) := by decide +kernel
theorem dX7_size_1 : decode cX7_size 1 = .ok (.bipush 15, 2) := by decide +kernel
theorem dX7_size_3 : decode cX7_size 3 = .ok (.if_icmp .ne 11, 3) := by decide +kernel
theorem dX7_size_6 : decode cX7_size 6 = .ok (.aload_n 0, 1) := by decide +kernel
theorem dX7_size_7 : decode cX7_size 7 = .ok (.getfield 14, 3) := by decide +kernel
theorem dX7_size_10 : decode cX7_size 10 = .ok (.invokevirtual 92, 3) := by decide +kernel
theorem dX7_size_13 : decode cX7_size 13 = .ok (.ireturn, 1) := by decide +kernel
theorem dX7_size_14 : decode cX7_size 14 = .ok (.iload_n 1, 1) := by decide +kernel
theorem dX7_size_15 : decode cX7_size 15 = .ok (.ifCond .lt 9, 3) := by decide +kernel
theorem dX7_size_18 : decode cX7_size 18 = .ok (.iload_n 1, 1) := by decide +kernel
theorem dX7_size_19 : decode cX7_size 19 = .ok (.bipush 15, 2) := by decide +kernel
theorem dX7_size_21 : decode cX7_size 21 = .ok (.if_icmp .le 5, 3) := by decide +kernel
theorem dX7_size_24 : decode cX7_size 24 = .ok (.iconst (-1), 1) := by decide +kernel
theorem dX7_size_25 : decode cX7_size 25 = .ok (.ireturn, 1) := by decide +kernel
theorem dX7_size_26 : decode cX7_size 26 = .ok (.aload_n 0, 1) := by decide +kernel
theorem dX7_size_27 : decode cX7_size 27 = .ok (.getfield 78, 3) := by decide +kernel
theorem dX7_size_30 : decode cX7_size 30 = .ok (.ifCond .ne 5, 3) := by decide +kernel
theorem dX7_size_33 : decode cX7_size 33 = .ok (.iconst 0, 1) := by decide +kernel
theorem dX7_size_34 : decode cX7_size 34 = .ok (.ireturn, 1) := by decide +kernel
theorem dX7_size_35 : decode cX7_size 35 = .ok (.iload_n 1, 1) := by decide +kernel
theorem dX7_size_36 : decode cX7_size 36 = .ok (.bipush 7, 2) := by decide +kernel
theorem dX7_size_38 : decode cX7_size 38 = .ok (.if_icmp .ge 11, 3) := by decide +kernel
theorem dX7_size_41 : decode cX7_size 41 = .ok (.aload_n 0, 1) := by decide +kernel
theorem dX7_size_42 : decode cX7_size 42 = .ok (.iload_n 1, 1) := by decide +kernel
theorem dX7_size_43 : decode cX7_size 43 = .ok (.invokevirtual 312, 3) := by decide +kernel
theorem dX7_size_46 : decode cX7_size 46 = .ok (.goto 8, 3) := by decide +kernel
theorem dX7_size_49 : decode cX7_size 49 = .ok (.aload_n 0, 1) := by decide +kernel
theorem dX7_size_50 : decode cX7_size 50 = .ok (.iload_n 1, 1) := by decide +kernel
theorem dX7_size_51 : decode cX7_size 51 = .ok (.invokevirtual 315, 3) := by decide +kernel
theorem dX7_size_54 : decode cX7_size 54 = .ok (.ireturn, 1) := by decide +kernel
theorem dX7_trouble_0 : decode cX7_trouble 0 = .ok (.aload_n 0, 1) := by decide +kernel
theorem dX7_trouble_1 : decode cX7_trouble 1 = .ok (.getfield 89, 3) := by decide +kernel
theorem dX7_trouble_4 : decode cX7_trouble 4 = .ok (.ireturn, 1) := by decide +kernel
theorem dX7_answer_0 : decode cX7_answer 0 = .ok (.aload_n 0, 1) := by decide +kernel
theorem dX7_answer_1 : decode cX7_answer 1 = .ok (.iconst 0, 1) := by decide +kernel
theorem dX7_answer_2 : decode cX7_answer 2 = .ok (.putfield 89, 3) := by decide +kernel
theorem dX7_answer_5 : decode cX7_answer 5 = .ok (.iload_n 1, 1) := by decide +kernel
theorem dX7_answer_6 : decode cX7_answer 6 = .ok (.ireturn, 1) := by decide +kernel
theorem dX7_refuse_0 : decode cX7_refuse 0 = .ok (.aload_n 0, 1) := by decide +kernel
theorem dX7_refuse_1 : decode cX7_refuse 1 = .ok (.iload_n 1, 1) := by decide +kernel
theorem dX7_refuse_2 : decode cX7_refuse 2 = .ok (.putfield 89, 3) := by decide +kernel
theorem dX7_refuse_5 : decode cX7_refuse 5 = .ok (.iconst (-1), 1) := by decide +kernel
theorem dX7_refuse_6 : decode cX7_refuse 6 = .ok (.ireturn, 1) := by decide +kernel
theorem dX7_grant_0 : decode cX7_grant 0 = .ok (.aload_n 0, 1) := by decide +kernel
theorem dX7_grant_1 : decode cX7_grant 1 = .ok (.iconst 0, 1) := by decide +kernel
theorem dX7_grant_2 : decode cX7_grant 2 = .ok (.putfield 89, 3) := by decide +kernel
theorem dX7_grant_5 : decode cX7_grant 5 = .ok (.iconst 1, 1) := by decide +kernel
theorem dX7_grant_6 : decode cX7_grant 6 = .ok (.ireturn, 1) := by decide +kernel
theorem dX7_deny_0 : decode cX7_deny 0 = .ok (.aload_n 0, 1) := by decide +kernel
theorem dX7_deny_1 : decode cX7_deny 1 = .ok (.iload_n 1, 1) := by decide +kernel
theorem dX7_deny_2 : decode cX7_deny 2 = .ok (.putfield 89, 3) := by decide +kernel
theorem dX7_deny_5 : decode cX7_deny 5 = .ok (.iconst 0, 1) := by decide +kernel
theorem dX7_deny_6 : decode cX7_deny 6 = .ok (.ireturn, 1) := by decide +kernel
theorem dX7_feedOne_0 : decode cX7_feedOne 0 = .ok (.bipush 24, 2) := by decide +kernel
theorem dX7_feedOne_2 : decode cX7_feedOne 2 = .ok (.istore_n 2, 1) := by decide +kernel
theorem dX7_feedOne_3 : decode cX7_feedOne 3 = .ok (.iload_n 2, 1) := by decide +kernel
theorem dX7_feedOne_4 : decode cX7_feedOne 4 = .ok (.ifCond .lt 23, 3) := by decide +kernel
theorem dX7_feedOne_7 : decode cX7_feedOne 7 = .ok (.aload_n 0, 1) := by decide +kernel
theorem dX7_feedOne_8 : decode cX7_feedOne 8 = .ok (.getfield 14, 3) := by decide +kernel
theorem dX7_feedOne_11 : decode cX7_feedOne 11 = .ok (.iload_n 1, 1) := by decide +kernel
theorem dX7_feedOne_12 : decode cX7_feedOne 12 = .ok (.iload_n 2, 1) := by decide +kernel
theorem dX7_feedOne_13 : decode cX7_feedOne 13 = .ok (.iushr, 1) := by decide +kernel
theorem dX7_feedOne_14 : decode cX7_feedOne 14 = .ok (.sipush 255, 3) := by decide +kernel
theorem dX7_feedOne_17 : decode cX7_feedOne 17 = .ok (.iand, 1) := by decide +kernel
theorem dX7_feedOne_18 : decode cX7_feedOne 18 = .ok (.invokevirtual 318, 3) := by decide +kernel
theorem dX7_feedOne_21 : decode cX7_feedOne 21 = .ok (.iinc 2 (-8), 3) := by decide +kernel
theorem dX7_feedOne_24 : decode cX7_feedOne 24 = .ok (.goto (-21), 3) := by decide +kernel
theorem dX7_feedOne_27 : decode cX7_feedOne 27 = .ok (.return_, 1) := by decide +kernel
theorem dX7_cellAt_0 : decode cX7_cellAt 0 = .ok (.aload_n 0, 1) := by decide +kernel
theorem dX7_cellAt_1 : decode cX7_cellAt 1 = .ok (.getfield 78, 3) := by decide +kernel
theorem dX7_cellAt_4 : decode cX7_cellAt 4 = .ok (.ifCond .eq 15, 3) := by decide +kernel
theorem dX7_cellAt_7 : decode cX7_cellAt 7 = .ok (.aload_n 0, 1) := by decide +kernel
theorem dX7_cellAt_8 : decode cX7_cellAt 8 = .ok (.getfield 25, 3) := by decide +kernel
theorem dX7_cellAt_11 : decode cX7_cellAt 11 = .ok (.iload_n 1, 1) := by decide +kernel
theorem dX7_cellAt_12 : decode cX7_cellAt 12 = .ok (.iload_n 2, 1) := by decide +kernel
theorem dX7_cellAt_13 : decode cX7_cellAt 13 = .ok (.invokevirtual 320, 3) := by decide +kernel
theorem dX7_cellAt_16 : decode cX7_cellAt 16 = .ok (.goto 4, 3) := by decide +kernel
theorem dX7_cellAt_19 : decode cX7_cellAt 19 = .ok (.iconst (-1), 1) := by decide +kernel
theorem dX7_cellAt_20 : decode cX7_cellAt 20 = .ok (.ireturn, 1) := by decide +kernel
theorem dX7_isDancer_0 : decode cX7_isDancer 0 = .ok (.aload_n 0, 1) := by decide +kernel
theorem dX7_isDancer_1 : decode cX7_isDancer 1 = .ok (.getfield 78, 3) := by decide +kernel
theorem dX7_isDancer_4 : decode cX7_isDancer 4 = .ok (.ifCond .eq 25, 3) := by decide +kernel
theorem dX7_isDancer_7 : decode cX7_isDancer 7 = .ok (.iload_n 1, 1) := by decide +kernel
theorem dX7_isDancer_8 : decode cX7_isDancer 8 = .ok (.ifCond .lt 21, 3) := by decide +kernel
theorem dX7_isDancer_11 : decode cX7_isDancer 11 = .ok (.iload_n 1, 1) := by decide +kernel
theorem dX7_isDancer_12 : decode cX7_isDancer 12 = .ok (.aload_n 0, 1) := by decide +kernel
theorem dX7_isDancer_13 : decode cX7_isDancer 13 = .ok (.getfield 44, 3) := by decide +kernel
theorem dX7_isDancer_16 : decode cX7_isDancer 16 = .ok (.getfield 127, 3) := by decide +kernel
theorem dX7_isDancer_19 : decode cX7_isDancer 19 = .ok (.invokevirtual 92, 3) := by decide +kernel
theorem dX7_isDancer_22 : decode cX7_isDancer 22 = .ok (.if_icmp .ge 7, 3) := by decide +kernel
theorem dX7_isDancer_25 : decode cX7_isDancer 25 = .ok (.iconst 1, 1) := by decide +kernel
theorem dX7_isDancer_26 : decode cX7_isDancer 26 = .ok (.goto 4, 3) := by decide +kernel
theorem dX7_isDancer_29 : decode cX7_isDancer 29 = .ok (.iconst 0, 1) := by decide +kernel
theorem dX7_isDancer_30 : decode cX7_isDancer 30 = .ok (.ireturn, 1) := by decide +kernel
theorem dX7_isTable_0 : decode cX7_isTable 0 = .ok (.aload_n 0, 1) := by decide +kernel
theorem dX7_isTable_1 : decode cX7_isTable 1 = .ok (.getfield 78, 3) := by decide +kernel
theorem dX7_isTable_4 : decode cX7_isTable 4 = .ok (.ifCond .eq 25, 3) := by decide +kernel
theorem dX7_isTable_7 : decode cX7_isTable 7 = .ok (.iload_n 1, 1) := by decide +kernel
theorem dX7_isTable_8 : decode cX7_isTable 8 = .ok (.ifCond .lt 21, 3) := by decide +kernel
theorem dX7_isTable_11 : decode cX7_isTable 11 = .ok (.iload_n 1, 1) := by decide +kernel
theorem dX7_isTable_12 : decode cX7_isTable 12 = .ok (.aload_n 0, 1) := by decide +kernel
theorem dX7_isTable_13 : decode cX7_isTable 13 = .ok (.getfield 25, 3) := by decide +kernel
theorem dX7_isTable_16 : decode cX7_isTable 16 = .ok (.getfield 299, 3) := by decide +kernel
theorem dX7_isTable_19 : decode cX7_isTable 19 = .ok (.invokevirtual 92, 3) := by decide +kernel
theorem dX7_isTable_22 : decode cX7_isTable 22 = .ok (.if_icmp .ge 7, 3) := by decide +kernel
theorem dX7_isTable_25 : decode cX7_isTable 25 = .ok (.iconst 1, 1) := by decide +kernel
theorem dX7_isTable_26 : decode cX7_isTable 26 = .ok (.goto 4, 3) := by decide +kernel
theorem dX7_isTable_29 : decode cX7_isTable 29 = .ok (.iconst 0, 1) := by decide +kernel
theorem dX7_isTable_30 : decode cX7_isTable 30 = .ok (.ireturn, 1) := by decide +kernel
theorem dX7_foresee_0 : decode cX7_foresee 0 = .ok (.aload_n 0, 1) := by decide +kernel
theorem dX7_foresee_1 : decode cX7_foresee 1 = .ok (.getfield 78, 3) := by decide +kernel
theorem dX7_foresee_4 : decode cX7_foresee 4 = .ok (.ifCond .eq 13, 3) := by decide +kernel
theorem dX7_foresee_7 : decode cX7_foresee 7 = .ok (.iload_n 1, 1) := by decide +kernel
theorem dX7_foresee_8 : decode cX7_foresee 8 = .ok (.ifCond .lt 9, 3) := by decide +kernel
theorem dX7_foresee_11 : decode cX7_foresee 11 = .ok (.iload_n 1, 1) := by decide +kernel
theorem dX7_foresee_12 : decode cX7_foresee 12 = .ok (.bipush 40, 2) := by decide +kernel
theorem dX7_foresee_14 : decode cX7_foresee 14 = .ok (.if_icmp .le 22, 3) := by decide +kernel
theorem dX7_foresee_17 : decode cX7_foresee 17 = .ok (.aload_n 0, 1) := by decide +kernel
theorem dX7_foresee_18 : decode cX7_foresee 18 = .ok (.aload_n 0, 1) := by decide +kernel
theorem dX7_foresee_19 : decode cX7_foresee 19 = .ok (.getfield 78, 3) := by decide +kernel
theorem dX7_foresee_22 : decode cX7_foresee 22 = .ok (.ifCond .eq 7, 3) := by decide +kernel
theorem dX7_foresee_25 : decode cX7_foresee 25 = .ok (.iconst 2, 1) := by decide +kernel
theorem dX7_foresee_26 : decode cX7_foresee 26 = .ok (.goto 4, 3) := by decide +kernel
theorem dX7_foresee_29 : decode cX7_foresee 29 = .ok (.iconst 1, 1) := by decide +kernel
theorem dX7_foresee_30 : decode cX7_foresee 30 = .ok (.invokevirtual 99, 3) := by decide +kernel
theorem dX7_foresee_33 : decode cX7_foresee 33 = .ok (.pop, 1) := by decide +kernel
theorem dX7_foresee_34 : decode cX7_foresee 34 = .ok (.iconst 0, 1) := by decide +kernel
theorem dX7_foresee_35 : decode cX7_foresee 35 = .ok (.ireturn, 1) := by decide +kernel
theorem dX7_foresee_36 : decode cX7_foresee 36 = .ok (.aload_n 0, 1) := by decide +kernel
theorem dX7_foresee_37 : decode cX7_foresee 37 = .ok (.getfield 52, 3) := by decide +kernel
theorem dX7_foresee_40 : decode cX7_foresee 40 = .ok (.aload_n 0, 1) := by decide +kernel
theorem dX7_foresee_41 : decode cX7_foresee 41 = .ok (.getfield 44, 3) := by decide +kernel
theorem dX7_foresee_44 : decode cX7_foresee 44 = .ok (.invokevirtual 211, 3) := by decide +kernel
theorem dX7_foresee_47 : decode cX7_foresee 47 = .ok (.aload_n 0, 1) := by decide +kernel
theorem dX7_foresee_48 : decode cX7_foresee 48 = .ok (.getfield 52, 3) := by decide +kernel
theorem dX7_foresee_51 : decode cX7_foresee 51 = .ok (.iload_n 1, 1) := by decide +kernel
theorem dX7_foresee_52 : decode cX7_foresee 52 = .ok (.invokevirtual 217, 3) := by decide +kernel
theorem dX7_foresee_55 : decode cX7_foresee 55 = .ok (.iconst 1, 1) := by decide +kernel
theorem dX7_foresee_56 : decode cX7_foresee 56 = .ok (.ireturn, 1) := by decide +kernel
theorem dX7_joltOf_0 : decode cX7_joltOf 0 = .ok (.aload_n 0, 1) := by decide +kernel
theorem dX7_joltOf_1 : decode cX7_joltOf 1 = .ok (.getfield 44, 3) := by decide +kernel
theorem dX7_joltOf_4 : decode cX7_joltOf 4 = .ok (.getfield 127, 3) := by decide +kernel
theorem dX7_joltOf_7 : decode cX7_joltOf 7 = .ok (.iload_n 1, 1) := by decide +kernel
theorem dX7_joltOf_8 : decode cX7_joltOf 8 = .ok (.iconst 0, 1) := by decide +kernel
theorem dX7_joltOf_9 : decode cX7_joltOf 9 = .ok (.invokevirtual 140, 3) := by decide +kernel
theorem dX7_joltOf_12 : decode cX7_joltOf 12 = .ok (.istore_n 2, 1) := by decide +kernel
theorem dX7_joltOf_13 : decode cX7_joltOf 13 = .ok (.aload_n 0, 1) := by decide +kernel
theorem dX7_joltOf_14 : decode cX7_joltOf 14 = .ok (.getfield 52, 3) := by decide +kernel
theorem dX7_joltOf_17 : decode cX7_joltOf 17 = .ok (.getfield 170, 3) := by decide +kernel
theorem dX7_joltOf_20 : decode cX7_joltOf 20 = .ok (.iload_n 2, 1) := by decide +kernel
theorem dX7_joltOf_21 : decode cX7_joltOf 21 = .ok (.invokevirtual 173, 3) := by decide +kernel
theorem dX7_joltOf_24 : decode cX7_joltOf 24 = .ok (.ifCond .ge 8, 3) := by decide +kernel
theorem dX7_joltOf_27 : decode cX7_joltOf 27 = .ok (.bipush (-2), 2) := by decide +kernel
theorem dX7_joltOf_29 : decode cX7_joltOf 29 = .ok (.goto 15, 3) := by decide +kernel
theorem dX7_joltOf_32 : decode cX7_joltOf 32 = .ok (.aload_n 0, 1) := by decide +kernel
theorem dX7_joltOf_33 : decode cX7_joltOf 33 = .ok (.getfield 52, 3) := by decide +kernel
theorem dX7_joltOf_36 : decode cX7_joltOf 36 = .ok (.getfield 321, 3) := by decide +kernel
theorem dX7_joltOf_39 : decode cX7_joltOf 39 = .ok (.iload_n 2, 1) := by decide +kernel
theorem dX7_joltOf_40 : decode cX7_joltOf 40 = .ok (.iconst 0, 1) := by decide +kernel
theorem dX7_joltOf_41 : decode cX7_joltOf 41 = .ok (.invokevirtual 140, 3) := by decide +kernel
theorem dX7_joltOf_44 : decode cX7_joltOf 44 = .ok (.ireturn, 1) := by decide +kernel
theorem dX7_bestOrder_0 : decode cX7_bestOrder 0 = .ok (.bipush 100, 2) := by decide +kernel
theorem dX7_bestOrder_2 : decode cX7_bestOrder 2 = .ok (.istore_n 1, 1) := by decide +kernel
theorem dX7_bestOrder_3 : decode cX7_bestOrder 3 = .ok (.aload_n 0, 1) := by decide +kernel
theorem dX7_bestOrder_4 : decode cX7_bestOrder 4 = .ok (.getfield 71, 3) := by decide +kernel
theorem dX7_bestOrder_7 : decode cX7_bestOrder 7 = .ok (.aload_n 0, 1) := by decide +kernel
theorem dX7_bestOrder_8 : decode cX7_bestOrder 8 = .ok (.getfield 44, 3) := by decide +kernel
theorem dX7_bestOrder_11 : decode cX7_bestOrder 11 = .ok (.getfield 127, 3) := by decide +kernel
theorem dX7_bestOrder_14 : decode cX7_bestOrder 14 = .ok (.invokevirtual 92, 3) := by decide +kernel
theorem dX7_bestOrder_17 : decode cX7_bestOrder 17 = .ok (.invokevirtual 324, 3) := by decide +kernel
theorem dX7_bestOrder_20 : decode cX7_bestOrder 20 = .ok (.iconst 0, 1) := by decide +kernel
theorem dX7_bestOrder_21 : decode cX7_bestOrder 21 = .ok (.istore_n 2, 1) := by decide +kernel
theorem dX7_bestOrder_22 : decode cX7_bestOrder 22 = .ok (.iload_n 2, 1) := by decide +kernel
theorem dX7_bestOrder_23 : decode cX7_bestOrder 23 = .ok (.sipush 720, 3) := by decide +kernel
theorem dX7_bestOrder_26 : decode cX7_bestOrder 26 = .ok (.if_icmp .ge 131, 3) := by decide +kernel
theorem dX7_bestOrder_29 : decode cX7_bestOrder 29 = .ok (.aload_n 0, 1) := by decide +kernel
theorem dX7_bestOrder_30 : decode cX7_bestOrder 30 = .ok (.getfield 52, 3) := by decide +kernel
theorem dX7_bestOrder_33 : decode cX7_bestOrder 33 = .ok (.aload_n 0, 1) := by decide +kernel
theorem dX7_bestOrder_34 : decode cX7_bestOrder 34 = .ok (.getfield 44, 3) := by decide +kernel
theorem dX7_bestOrder_37 : decode cX7_bestOrder 37 = .ok (.invokevirtual 211, 3) := by decide +kernel
theorem dX7_bestOrder_40 : decode cX7_bestOrder 40 = .ok (.iconst 1, 1) := by decide +kernel
theorem dX7_bestOrder_41 : decode cX7_bestOrder 41 = .ok (.istore_n 3, 1) := by decide +kernel
theorem dX7_bestOrder_42 : decode cX7_bestOrder 42 = .ok (.iload_n 3, 1) := by decide +kernel
theorem dX7_bestOrder_43 : decode cX7_bestOrder 43 = .ok (.aload_n 0, 1) := by decide +kernel
theorem dX7_bestOrder_44 : decode cX7_bestOrder 44 = .ok (.getfield 44, 3) := by decide +kernel
theorem dX7_bestOrder_47 : decode cX7_bestOrder 47 = .ok (.getfield 127, 3) := by decide +kernel
theorem dX7_bestOrder_50 : decode cX7_bestOrder 50 = .ok (.invokevirtual 92, 3) := by decide +kernel
theorem dX7_bestOrder_53 : decode cX7_bestOrder 53 = .ok (.if_icmp .ge 36, 3) := by decide +kernel
theorem dX7_bestOrder_56 : decode cX7_bestOrder 56 = .ok (.aload_n 0, 1) := by decide +kernel
theorem dX7_bestOrder_57 : decode cX7_bestOrder 57 = .ok (.getfield 52, 3) := by decide +kernel
theorem dX7_bestOrder_60 : decode cX7_bestOrder 60 = .ok (.getfield 170, 3) := by decide +kernel
theorem dX7_bestOrder_63 : decode cX7_bestOrder 63 = .ok (.iload_n 3, 1) := by decide +kernel
theorem dX7_bestOrder_64 : decode cX7_bestOrder 64 = .ok (.aload_n 0, 1) := by decide +kernel
theorem dX7_bestOrder_65 : decode cX7_bestOrder 65 = .ok (.getfield 44, 3) := by decide +kernel
theorem dX7_bestOrder_68 : decode cX7_bestOrder 68 = .ok (.aload_n 0, 1) := by decide +kernel
theorem dX7_bestOrder_69 : decode cX7_bestOrder 69 = .ok (.getfield 71, 3) := by decide +kernel
theorem dX7_bestOrder_72 : decode cX7_bestOrder 72 = .ok (.getfield 326, 3) := by decide +kernel
theorem dX7_bestOrder_75 : decode cX7_bestOrder 75 = .ok (.iload_n 3, 1) := by decide +kernel
theorem dX7_bestOrder_76 : decode cX7_bestOrder 76 = .ok (.iconst 0, 1) := by decide +kernel
theorem dX7_bestOrder_77 : decode cX7_bestOrder 77 = .ok (.invokevirtual 140, 3) := by decide +kernel
theorem dX7_bestOrder_80 : decode cX7_bestOrder 80 = .ok (.invokevirtual 280, 3) := by decide +kernel
theorem dX7_bestOrder_83 : decode cX7_bestOrder 83 = .ok (.iinc 3 1, 3) := by decide +kernel
theorem dX7_bestOrder_86 : decode cX7_bestOrder 86 = .ok (.goto (-44), 3) := by decide +kernel
theorem dX7_bestOrder_89 : decode cX7_bestOrder 89 = .ok (.aload_n 0, 1) := by decide +kernel
theorem dX7_bestOrder_90 : decode cX7_bestOrder 90 = .ok (.getfield 52, 3) := by decide +kernel
theorem dX7_bestOrder_93 : decode cX7_bestOrder 93 = .ok (.bipush 12, 2) := by decide +kernel
theorem dX7_bestOrder_95 : decode cX7_bestOrder 95 = .ok (.invokevirtual 217, 3) := by decide +kernel
theorem dX7_bestOrder_98 : decode cX7_bestOrder 98 = .ok (.aload_n 0, 1) := by decide +kernel
theorem dX7_bestOrder_99 : decode cX7_bestOrder 99 = .ok (.getfield 52, 3) := by decide +kernel
theorem dX7_bestOrder_102 : decode cX7_bestOrder 102 = .ok (.getfield 329, 3) := by decide +kernel
theorem dX7_bestOrder_105 : decode cX7_bestOrder 105 = .ok (.iload_n 1, 1) := by decide +kernel
theorem dX7_bestOrder_106 : decode cX7_bestOrder 106 = .ok (.if_icmp .ge 28, 3) := by decide +kernel
theorem dX7_bestOrder_109 : decode cX7_bestOrder 109 = .ok (.aload_n 0, 1) := by decide +kernel
theorem dX7_bestOrder_110 : decode cX7_bestOrder 110 = .ok (.getfield 52, 3) := by decide +kernel
theorem dX7_bestOrder_113 : decode cX7_bestOrder 113 = .ok (.getfield 329, 3) := by decide +kernel
theorem dX7_bestOrder_116 : decode cX7_bestOrder 116 = .ok (.istore_n 1, 1) := by decide +kernel
theorem dX7_bestOrder_117 : decode cX7_bestOrder 117 = .ok (.aload_n 0, 1) := by decide +kernel
theorem dX7_bestOrder_118 : decode cX7_bestOrder 118 = .ok (.getfield 71, 3) := by decide +kernel
theorem dX7_bestOrder_121 : decode cX7_bestOrder 121 = .ok (.getfield 223, 3) := by decide +kernel
theorem dX7_bestOrder_124 : decode cX7_bestOrder 124 = .ok (.aload_n 0, 1) := by decide +kernel
theorem dX7_bestOrder_125 : decode cX7_bestOrder 125 = .ok (.getfield 71, 3) := by decide +kernel
theorem dX7_bestOrder_128 : decode cX7_bestOrder 128 = .ok (.getfield 326, 3) := by decide +kernel
theorem dX7_bestOrder_131 : decode cX7_bestOrder 131 = .ok (.invokevirtual 332, 3) := by decide +kernel
theorem dX7_bestOrder_134 : decode cX7_bestOrder 134 = .ok (.iload_n 1, 1) := by decide +kernel
theorem dX7_bestOrder_135 : decode cX7_bestOrder 135 = .ok (.ifCond .eq 22, 3) := by decide +kernel
theorem dX7_bestOrder_138 : decode cX7_bestOrder 138 = .ok (.aload_n 0, 1) := by decide +kernel
theorem dX7_bestOrder_139 : decode cX7_bestOrder 139 = .ok (.getfield 71, 3) := by decide +kernel
theorem dX7_bestOrder_142 : decode cX7_bestOrder 142 = .ok (.invokevirtual 335, 3) := by decide +kernel
theorem dX7_bestOrder_145 : decode cX7_bestOrder 145 = .ok (.ifCond .ne 6, 3) := by decide +kernel
theorem dX7_bestOrder_148 : decode cX7_bestOrder 148 = .ok (.goto 9, 3) := by decide +kernel
theorem dX7_bestOrder_151 : decode cX7_bestOrder 151 = .ok (.iinc 2 1, 3) := by decide +kernel
theorem dX7_bestOrder_154 : decode cX7_bestOrder 154 = .ok (.goto (-132), 3) := by decide +kernel
theorem dX7_bestOrder_157 : decode cX7_bestOrder 157 = .ok (.iload_n 1, 1) := by decide +kernel
theorem dX7_bestOrder_158 : decode cX7_bestOrder 158 = .ok (.ireturn, 1) := by decide +kernel
theorem dX7_bestPlan_0 : decode cX7_bestPlan 0 = .ok (.aload_n 0, 1) := by decide +kernel
theorem dX7_bestPlan_1 : decode cX7_bestPlan 1 = .ok (.getfield 78, 3) := by decide +kernel
theorem dX7_bestPlan_4 : decode cX7_bestPlan 4 = .ok (.ifCond .eq 13, 3) := by decide +kernel
theorem dX7_bestPlan_7 : decode cX7_bestPlan 7 = .ok (.iload_n 1, 1) := by decide +kernel
theorem dX7_bestPlan_8 : decode cX7_bestPlan 8 = .ok (.iconst 1, 1) := by decide +kernel
theorem dX7_bestPlan_9 : decode cX7_bestPlan 9 = .ok (.if_icmp .lt 8, 3) := by decide +kernel
theorem dX7_bestPlan_12 : decode cX7_bestPlan 12 = .ok (.iload_n 1, 1) := by decide +kernel
theorem dX7_bestPlan_13 : decode cX7_bestPlan 13 = .ok (.iconst 5, 1) := by decide +kernel
theorem dX7_bestPlan_14 : decode cX7_bestPlan 14 = .ok (.if_icmp .le 22, 3) := by decide +kernel
theorem dX7_bestPlan_17 : decode cX7_bestPlan 17 = .ok (.aload_n 0, 1) := by decide +kernel
theorem dX7_bestPlan_18 : decode cX7_bestPlan 18 = .ok (.aload_n 0, 1) := by decide +kernel
theorem dX7_bestPlan_19 : decode cX7_bestPlan 19 = .ok (.getfield 78, 3) := by decide +kernel
theorem dX7_bestPlan_22 : decode cX7_bestPlan 22 = .ok (.ifCond .eq 7, 3) := by decide +kernel
theorem dX7_bestPlan_25 : decode cX7_bestPlan 25 = .ok (.iconst 2, 1) := by decide +kernel
theorem dX7_bestPlan_26 : decode cX7_bestPlan 26 = .ok (.goto 4, 3) := by decide +kernel
theorem dX7_bestPlan_29 : decode cX7_bestPlan 29 = .ok (.iconst 1, 1) := by decide +kernel
theorem dX7_bestPlan_30 : decode cX7_bestPlan 30 = .ok (.invokevirtual 99, 3) := by decide +kernel
theorem dX7_bestPlan_33 : decode cX7_bestPlan 33 = .ok (.pop, 1) := by decide +kernel
theorem dX7_bestPlan_34 : decode cX7_bestPlan 34 = .ok (.iconst (-1), 1) := by decide +kernel
theorem dX7_bestPlan_35 : decode cX7_bestPlan 35 = .ok (.ireturn, 1) := by decide +kernel
theorem dX7_bestPlan_36 : decode cX7_bestPlan 36 = .ok (.iconst 0, 1) := by decide +kernel
theorem dX7_bestPlan_37 : decode cX7_bestPlan 37 = .ok (.istore_n 2, 1) := by decide +kernel
theorem dX7_bestPlan_38 : decode cX7_bestPlan 38 = .ok (.iconst (-1), 1) := by decide +kernel
theorem dX7_bestPlan_39 : decode cX7_bestPlan 39 = .ok (.istore_n 3, 1) := by decide +kernel
theorem dX7_bestPlan_40 : decode cX7_bestPlan 40 = .ok (.iconst 0, 1) := by decide +kernel
theorem dX7_bestPlan_41 : decode cX7_bestPlan 41 = .ok (.istore 4, 2) := by decide +kernel
theorem dX7_bestPlan_43 : decode cX7_bestPlan 43 = .ok (.iload 4, 2) := by decide +kernel
theorem dX7_bestPlan_45 : decode cX7_bestPlan 45 = .ok (.iconst 1, 1) := by decide +kernel
theorem dX7_bestPlan_46 : decode cX7_bestPlan 46 = .ok (.iconst 2, 1) := by decide +kernel
theorem dX7_bestPlan_47 : decode cX7_bestPlan 47 = .ok (.iload_n 1, 1) := by decide +kernel
theorem dX7_bestPlan_48 : decode cX7_bestPlan 48 = .ok (.imul, 1) := by decide +kernel
theorem dX7_bestPlan_49 : decode cX7_bestPlan 49 = .ok (.ishl, 1) := by decide +kernel
theorem dX7_bestPlan_50 : decode cX7_bestPlan 50 = .ok (.if_icmp .ge 65, 3) := by decide +kernel
theorem dX7_bestPlan_53 : decode cX7_bestPlan 53 = .ok (.aload_n 0, 1) := by decide +kernel
theorem dX7_bestPlan_54 : decode cX7_bestPlan 54 = .ok (.getfield 52, 3) := by decide +kernel
theorem dX7_bestPlan_57 : decode cX7_bestPlan 57 = .ok (.aload_n 0, 1) := by decide +kernel
theorem dX7_bestPlan_58 : decode cX7_bestPlan 58 = .ok (.getfield 44, 3) := by decide +kernel
theorem dX7_bestPlan_61 : decode cX7_bestPlan 61 = .ok (.iload_n 1, 1) := by decide +kernel
theorem dX7_bestPlan_62 : decode cX7_bestPlan 62 = .ok (.iload 4, 2) := by decide +kernel
theorem dX7_bestPlan_64 : decode cX7_bestPlan 64 = .ok (.invokevirtual 232, 3) := by decide +kernel
theorem dX7_bestPlan_67 : decode cX7_bestPlan 67 = .ok (.aload_n 0, 1) := by decide +kernel
theorem dX7_bestPlan_68 : decode cX7_bestPlan 68 = .ok (.getfield 52, 3) := by decide +kernel
theorem dX7_bestPlan_71 : decode cX7_bestPlan 71 = .ok (.iload_n 1, 1) := by decide +kernel
theorem dX7_bestPlan_72 : decode cX7_bestPlan 72 = .ok (.invokevirtual 217, 3) := by decide +kernel
theorem dX7_bestPlan_75 : decode cX7_bestPlan 75 = .ok (.aload_n 0, 1) := by decide +kernel
theorem dX7_bestPlan_76 : decode cX7_bestPlan 76 = .ok (.getfield 52, 3) := by decide +kernel
theorem dX7_bestPlan_79 : decode cX7_bestPlan 79 = .ok (.getfield 170, 3) := by decide +kernel
theorem dX7_bestPlan_82 : decode cX7_bestPlan 82 = .ok (.getfield 127, 3) := by decide +kernel
theorem dX7_bestPlan_85 : decode cX7_bestPlan 85 = .ok (.invokevirtual 92, 3) := by decide +kernel
theorem dX7_bestPlan_88 : decode cX7_bestPlan 88 = .ok (.iload_n 3, 1) := by decide +kernel
theorem dX7_bestPlan_89 : decode cX7_bestPlan 89 = .ok (.if_icmp .le 20, 3) := by decide +kernel
theorem dX7_bestPlan_92 : decode cX7_bestPlan 92 = .ok (.aload_n 0, 1) := by decide +kernel
theorem dX7_bestPlan_93 : decode cX7_bestPlan 93 = .ok (.getfield 52, 3) := by decide +kernel
theorem dX7_bestPlan_96 : decode cX7_bestPlan 96 = .ok (.getfield 170, 3) := by decide +kernel
theorem dX7_bestPlan_99 : decode cX7_bestPlan 99 = .ok (.getfield 127, 3) := by decide +kernel
theorem dX7_bestPlan_102 : decode cX7_bestPlan 102 = .ok (.invokevirtual 92, 3) := by decide +kernel
theorem dX7_bestPlan_105 : decode cX7_bestPlan 105 = .ok (.istore_n 3, 1) := by decide +kernel
theorem dX7_bestPlan_106 : decode cX7_bestPlan 106 = .ok (.iload 4, 2) := by decide +kernel
theorem dX7_bestPlan_108 : decode cX7_bestPlan 108 = .ok (.istore_n 2, 1) := by decide +kernel
theorem dX7_bestPlan_109 : decode cX7_bestPlan 109 = .ok (.iinc 4 1, 3) := by decide +kernel
theorem dX7_bestPlan_112 : decode cX7_bestPlan 112 = .ok (.goto (-69), 3) := by decide +kernel
theorem dX7_bestPlan_115 : decode cX7_bestPlan 115 = .ok (.iload_n 2, 1) := by decide +kernel
theorem dX7_bestPlan_116 : decode cX7_bestPlan 116 = .ok (.ireturn, 1) := by decide +kernel
theorem dX7_inTimeFrom_0 : decode cX7_inTimeFrom 0 = .ok (.aload_n 0, 1) := by decide +kernel
theorem dX7_inTimeFrom_1 : decode cX7_inTimeFrom 1 = .ok (.getfield 25, 3) := by decide +kernel
theorem dX7_inTimeFrom_4 : decode cX7_inTimeFrom 4 = .ok (.getfield 302, 3) := by decide +kernel
theorem dX7_inTimeFrom_7 : decode cX7_inTimeFrom 7 = .ok (.invokevirtual 92, 3) := by decide +kernel
theorem dX7_inTimeFrom_10 : decode cX7_inTimeFrom 10 = .ok (.istore_n 2, 1) := by decide +kernel
theorem dX7_inTimeFrom_11 : decode cX7_inTimeFrom 11 = .ok (.iload_n 2, 1) := by decide +kernel
theorem dX7_inTimeFrom_12 : decode cX7_inTimeFrom 12 = .ok (.iconst 1, 1) := by decide +kernel
theorem dX7_inTimeFrom_13 : decode cX7_inTimeFrom 13 = .ok (.if_icmp .ge 5, 3) := by decide +kernel
theorem dX7_inTimeFrom_16 : decode cX7_inTimeFrom 16 = .ok (.iconst 0, 1) := by decide +kernel
theorem dX7_inTimeFrom_17 : decode cX7_inTimeFrom 17 = .ok (.ireturn, 1) := by decide +kernel
theorem dX7_inTimeFrom_18 : decode cX7_inTimeFrom 18 = .ok (.iconst 0, 1) := by decide +kernel
theorem dX7_inTimeFrom_19 : decode cX7_inTimeFrom 19 = .ok (.istore_n 3, 1) := by decide +kernel
theorem dX7_inTimeFrom_20 : decode cX7_inTimeFrom 20 = .ok (.iconst 0, 1) := by decide +kernel
theorem dX7_inTimeFrom_21 : decode cX7_inTimeFrom 21 = .ok (.istore 4, 2) := by decide +kernel
theorem dX7_inTimeFrom_23 : decode cX7_inTimeFrom 23 = .ok (.iload 4, 2) := by decide +kernel
theorem dX7_inTimeFrom_25 : decode cX7_inTimeFrom 25 = .ok (.aload_n 0, 1) := by decide +kernel
theorem dX7_inTimeFrom_26 : decode cX7_inTimeFrom 26 = .ok (.getfield 44, 3) := by decide +kernel
theorem dX7_inTimeFrom_29 : decode cX7_inTimeFrom 29 = .ok (.getfield 127, 3) := by decide +kernel
theorem dX7_inTimeFrom_32 : decode cX7_inTimeFrom 32 = .ok (.invokevirtual 92, 3) := by decide +kernel
theorem dX7_inTimeFrom_35 : decode cX7_inTimeFrom 35 = .ok (.if_icmp .ge 39, 3) := by decide +kernel
theorem dX7_inTimeFrom_38 : decode cX7_inTimeFrom 38 = .ok (.iload_n 3, 1) := by decide +kernel
theorem dX7_inTimeFrom_39 : decode cX7_inTimeFrom 39 = .ok (.aload_n 0, 1) := by decide +kernel
theorem dX7_inTimeFrom_40 : decode cX7_inTimeFrom 40 = .ok (.getfield 25, 3) := by decide +kernel
theorem dX7_inTimeFrom_43 : decode cX7_inTimeFrom 43 = .ok (.iload_n 1, 1) := by decide +kernel
theorem dX7_inTimeFrom_44 : decode cX7_inTimeFrom 44 = .ok (.aload_n 0, 1) := by decide +kernel
theorem dX7_inTimeFrom_45 : decode cX7_inTimeFrom 45 = .ok (.getfield 44, 3) := by decide +kernel
theorem dX7_inTimeFrom_48 : decode cX7_inTimeFrom 48 = .ok (.iload 4, 2) := by decide +kernel
theorem dX7_inTimeFrom_50 : decode cX7_inTimeFrom 50 = .ok (.invokevirtual 146, 3) := by decide +kernel
theorem dX7_inTimeFrom_53 : decode cX7_inTimeFrom 53 = .ok (.invokevirtual 246, 3) := by decide +kernel
theorem dX7_inTimeFrom_56 : decode cX7_inTimeFrom 56 = .ok (.iload_n 2, 1) := by decide +kernel
theorem dX7_inTimeFrom_57 : decode cX7_inTimeFrom 57 = .ok (.irem, 1) := by decide +kernel
theorem dX7_inTimeFrom_58 : decode cX7_inTimeFrom 58 = .ok (.ifCond .ne 7, 3) := by decide +kernel
theorem dX7_inTimeFrom_61 : decode cX7_inTimeFrom 61 = .ok (.iconst 1, 1) := by decide +kernel
theorem dX7_inTimeFrom_62 : decode cX7_inTimeFrom 62 = .ok (.goto 4, 3) := by decide +kernel
theorem dX7_inTimeFrom_65 : decode cX7_inTimeFrom 65 = .ok (.iconst 0, 1) := by decide +kernel
theorem dX7_inTimeFrom_66 : decode cX7_inTimeFrom 66 = .ok (.iadd, 1) := by decide +kernel
theorem dX7_inTimeFrom_67 : decode cX7_inTimeFrom 67 = .ok (.istore_n 3, 1) := by decide +kernel
theorem dX7_inTimeFrom_68 : decode cX7_inTimeFrom 68 = .ok (.iinc 4 1, 3) := by decide +kernel
theorem dX7_inTimeFrom_71 : decode cX7_inTimeFrom 71 = .ok (.goto (-48), 3) := by decide +kernel
theorem dX7_inTimeFrom_74 : decode cX7_inTimeFrom 74 = .ok (.iload_n 3, 1) := by decide +kernel
theorem dX7_inTimeFrom_75 : decode cX7_inTimeFrom 75 = .ok (.ireturn, 1) := by decide +kernel
theorem dX7_sizeTold_0 : decode cX7_sizeTold 0 = .ok (.iload_n 1, 1) := by decide +kernel
theorem dX7_sizeTold_1 : decode cX7_sizeTold 1 = .ok (.tableswitch 109 0 5 #[39, 47, 55, 71, 87, 98], 39) := by decide +kernel
theorem dX7_sizeTold_40 : decode cX7_sizeTold 40 = .ok (.aload_n 0, 1) := by decide +kernel
theorem dX7_sizeTold_41 : decode cX7_sizeTold 41 = .ok (.getfield 25, 3) := by decide +kernel
theorem dX7_sizeTold_44 : decode cX7_sizeTold 44 = .ok (.getfield 338, 3) := by decide +kernel
theorem dX7_sizeTold_47 : decode cX7_sizeTold 47 = .ok (.ireturn, 1) := by decide +kernel
theorem dX7_sizeTold_48 : decode cX7_sizeTold 48 = .ok (.aload_n 0, 1) := by decide +kernel
theorem dX7_sizeTold_49 : decode cX7_sizeTold 49 = .ok (.getfield 25, 3) := by decide +kernel
theorem dX7_sizeTold_52 : decode cX7_sizeTold 52 = .ok (.getfield 340, 3) := by decide +kernel
theorem dX7_sizeTold_55 : decode cX7_sizeTold 55 = .ok (.ireturn, 1) := by decide +kernel
theorem dX7_sizeTold_56 : decode cX7_sizeTold 56 = .ok (.aload_n 0, 1) := by decide +kernel
theorem dX7_sizeTold_57 : decode cX7_sizeTold 57 = .ok (.getfield 25, 3) := by decide +kernel
theorem dX7_sizeTold_60 : decode cX7_sizeTold 60 = .ok (.getfield 343, 3) := by decide +kernel
theorem dX7_sizeTold_63 : decode cX7_sizeTold 63 = .ok (.ifCond .eq 7, 3) := by decide +kernel
theorem dX7_sizeTold_66 : decode cX7_sizeTold 66 = .ok (.iconst 1, 1) := by decide +kernel
theorem dX7_sizeTold_67 : decode cX7_sizeTold 67 = .ok (.goto 4, 3) := by decide +kernel
theorem dX7_sizeTold_70 : decode cX7_sizeTold 70 = .ok (.iconst 0, 1) := by decide +kernel
theorem dX7_sizeTold_71 : decode cX7_sizeTold 71 = .ok (.ireturn, 1) := by decide +kernel
theorem dX7_sizeTold_72 : decode cX7_sizeTold 72 = .ok (.aload_n 0, 1) := by decide +kernel
theorem dX7_sizeTold_73 : decode cX7_sizeTold 73 = .ok (.getfield 25, 3) := by decide +kernel
theorem dX7_sizeTold_76 : decode cX7_sizeTold 76 = .ok (.getfield 346, 3) := by decide +kernel
theorem dX7_sizeTold_79 : decode cX7_sizeTold 79 = .ok (.ifCond .eq 7, 3) := by decide +kernel
theorem dX7_sizeTold_82 : decode cX7_sizeTold 82 = .ok (.iconst 1, 1) := by decide +kernel
theorem dX7_sizeTold_83 : decode cX7_sizeTold 83 = .ok (.goto 4, 3) := by decide +kernel
theorem dX7_sizeTold_86 : decode cX7_sizeTold 86 = .ok (.iconst 0, 1) := by decide +kernel
theorem dX7_sizeTold_87 : decode cX7_sizeTold 87 = .ok (.ireturn, 1) := by decide +kernel
theorem dX7_sizeTold_88 : decode cX7_sizeTold 88 = .ok (.aload_n 0, 1) := by decide +kernel
theorem dX7_sizeTold_89 : decode cX7_sizeTold 89 = .ok (.getfield 25, 3) := by decide +kernel
theorem dX7_sizeTold_92 : decode cX7_sizeTold 92 = .ok (.getfield 299, 3) := by decide +kernel
theorem dX7_sizeTold_95 : decode cX7_sizeTold 95 = .ok (.invokevirtual 92, 3) := by decide +kernel
theorem dX7_sizeTold_98 : decode cX7_sizeTold 98 = .ok (.ireturn, 1) := by decide +kernel
theorem dX7_sizeTold_99 : decode cX7_sizeTold 99 = .ok (.aload_n 0, 1) := by decide +kernel
theorem dX7_sizeTold_100 : decode cX7_sizeTold 100 = .ok (.getfield 25, 3) := by decide +kernel
theorem dX7_sizeTold_103 : decode cX7_sizeTold 103 = .ok (.getfield 302, 3) := by decide +kernel
theorem dX7_sizeTold_106 : decode cX7_sizeTold 106 = .ok (.invokevirtual 92, 3) := by decide +kernel
theorem dX7_sizeTold_109 : decode cX7_sizeTold 109 = .ok (.ireturn, 1) := by decide +kernel
theorem dX7_sizeTold_110 : decode cX7_sizeTold 110 = .ok (.aload_n 0, 1) := by decide +kernel
theorem dX7_sizeTold_111 : decode cX7_sizeTold 111 = .ok (.getfield 25, 3) := by decide +kernel
theorem dX7_sizeTold_114 : decode cX7_sizeTold 114 = .ok (.getfield 349, 3) := by decide +kernel
theorem dX7_sizeTold_117 : decode cX7_sizeTold 117 = .ok (.invokevirtual 92, 3) := by decide +kernel
theorem dX7_sizeTold_120 : decode cX7_sizeTold 120 = .ok (.ireturn, 1) := by decide +kernel
theorem dX7_sizeNow_0 : decode cX7_sizeNow 0 = .ok (.iload_n 1, 1) := by decide +kernel
theorem dX7_sizeNow_1 : decode cX7_sizeNow 1 = .ok (.tableswitch 99 7 13 #[43, 51, 59, 67, 75, 83, 91], 43) := by decide +kernel
theorem dX7_sizeNow_44 : decode cX7_sizeNow 44 = .ok (.aload_n 0, 1) := by decide +kernel
theorem dX7_sizeNow_45 : decode cX7_sizeNow 45 = .ok (.getfield 44, 3) := by decide +kernel
theorem dX7_sizeNow_48 : decode cX7_sizeNow 48 = .ok (.getfield 226, 3) := by decide +kernel
theorem dX7_sizeNow_51 : decode cX7_sizeNow 51 = .ok (.ireturn, 1) := by decide +kernel
theorem dX7_sizeNow_52 : decode cX7_sizeNow 52 = .ok (.aload_n 0, 1) := by decide +kernel
theorem dX7_sizeNow_53 : decode cX7_sizeNow 53 = .ok (.getfield 44, 3) := by decide +kernel
theorem dX7_sizeNow_56 : decode cX7_sizeNow 56 = .ok (.getfield 352, 3) := by decide +kernel
theorem dX7_sizeNow_59 : decode cX7_sizeNow 59 = .ok (.ireturn, 1) := by decide +kernel
theorem dX7_sizeNow_60 : decode cX7_sizeNow 60 = .ok (.aload_n 0, 1) := by decide +kernel
theorem dX7_sizeNow_61 : decode cX7_sizeNow 61 = .ok (.getfield 44, 3) := by decide +kernel
theorem dX7_sizeNow_64 : decode cX7_sizeNow 64 = .ok (.getfield 249, 3) := by decide +kernel
theorem dX7_sizeNow_67 : decode cX7_sizeNow 67 = .ok (.ireturn, 1) := by decide +kernel
theorem dX7_sizeNow_68 : decode cX7_sizeNow 68 = .ok (.aload_n 0, 1) := by decide +kernel
theorem dX7_sizeNow_69 : decode cX7_sizeNow 69 = .ok (.getfield 44, 3) := by decide +kernel
theorem dX7_sizeNow_72 : decode cX7_sizeNow 72 = .ok (.getfield 240, 3) := by decide +kernel
theorem dX7_sizeNow_75 : decode cX7_sizeNow 75 = .ok (.ireturn, 1) := by decide +kernel
theorem dX7_sizeNow_76 : decode cX7_sizeNow 76 = .ok (.aload_n 0, 1) := by decide +kernel
theorem dX7_sizeNow_77 : decode cX7_sizeNow 77 = .ok (.getfield 44, 3) := by decide +kernel
theorem dX7_sizeNow_80 : decode cX7_sizeNow 80 = .ok (.getfield 243, 3) := by decide +kernel
theorem dX7_sizeNow_83 : decode cX7_sizeNow 83 = .ok (.ireturn, 1) := by decide +kernel
theorem dX7_sizeNow_84 : decode cX7_sizeNow 84 = .ok (.aload_n 0, 1) := by decide +kernel
theorem dX7_sizeNow_85 : decode cX7_sizeNow 85 = .ok (.getfield 25, 3) := by decide +kernel
theorem dX7_sizeNow_88 : decode cX7_sizeNow 88 = .ok (.getfield 257, 3) := by decide +kernel
theorem dX7_sizeNow_91 : decode cX7_sizeNow 91 = .ok (.ireturn, 1) := by decide +kernel
theorem dX7_sizeNow_92 : decode cX7_sizeNow 92 = .ok (.aload_n 0, 1) := by decide +kernel
theorem dX7_sizeNow_93 : decode cX7_sizeNow 93 = .ok (.getfield 61, 3) := by decide +kernel
theorem dX7_sizeNow_96 : decode cX7_sizeNow 96 = .ok (.invokevirtual 294, 3) := by decide +kernel
theorem dX7_sizeNow_99 : decode cX7_sizeNow 99 = .ok (.ireturn, 1) := by decide +kernel
theorem dX7_sizeNow_100 : decode cX7_sizeNow 100 = .ok (.aload_n 0, 1) := by decide +kernel
theorem dX7_sizeNow_101 : decode cX7_sizeNow 101 = .ok (.getfield 65, 3) := by decide +kernel
theorem dX7_sizeNow_104 : decode cX7_sizeNow 104 = .ok (.invokevirtual 294, 3) := by decide +kernel
theorem dX7_sizeNow_107 : decode cX7_sizeNow 107 = .ok (.ireturn, 1) := by decide +kernel
theorem dX8_init_0 : decode cX8_init 0 = .ok (.aload_n 0, 1) := by decide +kernel
theorem dX8_init_1 : decode cX8_init 1 = .ok (.invokespecial 3, 3) := by decide +kernel
theorem dX8_init_4 : decode cX8_init 4 = .ok (.aload_n 0, 1) := by decide +kernel
theorem dX8_init_5 : decode cX8_init 5 = .ok (.iconst (-1), 1) := by decide +kernel
theorem dX8_init_6 : decode cX8_init 6 = .ok (.putfield 9, 3) := by decide +kernel
theorem dX8_init_9 : decode cX8_init 9 = .ok (.aload_n 0, 1) := by decide +kernel
theorem dX8_init_10 : decode cX8_init 10 = .ok (.bipush (-2), 2) := by decide +kernel
theorem dX8_init_12 : decode cX8_init 12 = .ok (.putfield 15, 3) := by decide +kernel
theorem dX8_init_15 : decode cX8_init 15 = .ok (.aload_n 0, 1) := by decide +kernel
theorem dX8_init_16 : decode cX8_init 16 = .ok (.bipush (-2), 2) := by decide +kernel
theorem dX8_init_18 : decode cX8_init 18 = .ok (.putfield 18, 3) := by decide +kernel
theorem dX8_init_21 : decode cX8_init 21 = .ok (.aload_n 0, 1) := by decide +kernel
theorem dX8_init_22 : decode cX8_init 22 = .ok (.bipush (-2), 2) := by decide +kernel
theorem dX8_init_24 : decode cX8_init 24 = .ok (.putfield 21, 3) := by decide +kernel
theorem dX8_init_27 : decode cX8_init 27 = .ok (.aload_n 0, 1) := by decide +kernel
theorem dX8_init_28 : decode cX8_init 28 = .ok (.bipush 48, 2) := by decide +kernel
theorem dX8_init_30 : decode cX8_init 30 = .ok (.newarray .int, 2) := by decide +kernel
theorem dX8_init_32 : decode cX8_init 32 = .ok (.putfield 24, 3) := by decide +kernel
theorem dX8_init_35 : decode cX8_init 35 = .ok (.aload_n 0, 1) := by decide +kernel
theorem dX8_init_36 : decode cX8_init 36 = .ok (.iconst 4, 1) := by decide +kernel
theorem dX8_init_37 : decode cX8_init 37 = .ok (.newarray .int, 2) := by decide +kernel
theorem dX8_init_39 : decode cX8_init 39 = .ok (.putfield 28, 3) := by decide +kernel
theorem dX8_init_42 : decode cX8_init 42 = .ok (.aload_n 0, 1) := by decide +kernel
theorem dX8_init_43 : decode cX8_init 43 = .ok (.iconst 4, 1) := by decide +kernel
theorem dX8_init_44 : decode cX8_init 44 = .ok (.newarray .int, 2) := by decide +kernel
theorem dX8_init_46 : decode cX8_init 46 = .ok (.putfield 31, 3) := by decide +kernel
theorem dX8_init_49 : decode cX8_init 49 = .ok (.aload_n 0, 1) := by decide +kernel
theorem dX8_init_50 : decode cX8_init 50 = .ok (.iconst 4, 1) := by decide +kernel
theorem dX8_init_51 : decode cX8_init 51 = .ok (.newarray .int, 2) := by decide +kernel
theorem dX8_init_53 : decode cX8_init 53 = .ok (.putfield 34, 3) := by decide +kernel
theorem dX8_init_56 : decode cX8_init 56 = .ok (.aload_n 0, 1) := by decide +kernel
theorem dX8_init_57 : decode cX8_init 57 = .ok (.iconst 4, 1) := by decide +kernel
theorem dX8_init_58 : decode cX8_init 58 = .ok (.newarray .int, 2) := by decide +kernel
theorem dX8_init_60 : decode cX8_init 60 = .ok (.putfield 37, 3) := by decide +kernel
theorem dX8_init_63 : decode cX8_init 63 = .ok (.aload_n 0, 1) := by decide +kernel
theorem dX8_init_64 : decode cX8_init 64 = .ok (.iconst 4, 1) := by decide +kernel
theorem dX8_init_65 : decode cX8_init 65 = .ok (.newarray .int, 2) := by decide +kernel
theorem dX8_init_67 : decode cX8_init 67 = .ok (.putfield 40, 3) := by decide +kernel
theorem dX8_init_70 : decode cX8_init 70 = .ok (.aload_n 0, 1) := by decide +kernel
theorem dX8_init_71 : decode cX8_init 71 = .ok (.iconst 4, 1) := by decide +kernel
theorem dX8_init_72 : decode cX8_init 72 = .ok (.newarray .int, 2) := by decide +kernel
theorem dX8_init_74 : decode cX8_init 74 = .ok (.putfield 43, 3) := by decide +kernel
theorem dX8_init_77 : decode cX8_init 77 = .ok (.aload_n 0, 1) := by decide +kernel
theorem dX8_init_78 : decode cX8_init 78 = .ok (.bipush 8, 2) := by decide +kernel
theorem dX8_init_80 : decode cX8_init 80 = .ok (.newarray .int, 2) := by decide +kernel
theorem dX8_init_82 : decode cX8_init 82 = .ok (.putfield 46, 3) := by decide +kernel
theorem dX8_init_85 : decode cX8_init 85 = .ok (.aload_n 0, 1) := by decide +kernel
theorem dX8_init_86 : decode cX8_init 86 = .ok (.bipush 8, 2) := by decide +kernel
theorem dX8_init_88 : decode cX8_init 88 = .ok (.newarray .int, 2) := by decide +kernel
theorem dX8_init_90 : decode cX8_init 90 = .ok (.putfield 49, 3) := by decide +kernel
theorem dX8_init_93 : decode cX8_init 93 = .ok (.aload_n 0, 1) := by decide +kernel
theorem dX8_init_94 : decode cX8_init 94 = .ok (.bipush 8, 2) := by decide +kernel
theorem dX8_init_96 : decode cX8_init 96 = .ok (.newarray .int, 2) := by decide +kernel
theorem dX8_init_98 : decode cX8_init 98 = .ok (.putfield 52, 3) := by decide +kernel
theorem dX8_init_101 : decode cX8_init 101 = .ok (.aload_n 0, 1) := by decide +kernel
theorem dX8_init_102 : decode cX8_init 102 = .ok (.bipush 8, 2) := by decide +kernel
theorem dX8_init_104 : decode cX8_init 104 = .ok (.newarray .int, 2) := by decide +kernel
theorem dX8_init_106 : decode cX8_init 106 = .ok (.putfield 55, 3) := by decide +kernel
theorem dX8_init_109 : decode cX8_init 109 = .ok (.aload_n 0, 1) := by decide +kernel
theorem dX8_init_110 : decode cX8_init 110 = .ok (.bipush 12, 2) := by decide +kernel
theorem dX8_init_112 : decode cX8_init 112 = .ok (.newarray .int, 2) := by decide +kernel
theorem dX8_init_114 : decode cX8_init 114 = .ok (.putfield 58, 3) := by decide +kernel
theorem dX8_init_117 : decode cX8_init 117 = .ok (.aload_n 0, 1) := by decide +kernel
theorem dX8_init_118 : decode cX8_init 118 = .ok (.bipush 8, 2) := by decide +kernel
theorem dX8_init_120 : decode cX8_init 120 = .ok (.newarray .int, 2) := by decide +kernel
theorem dX8_init_122 : decode cX8_init 122 = .ok (.putfield 61, 3) := by decide +kernel
theorem dX8_init_125 : decode cX8_init 125 = .ok (.aload_n 0, 1) := by decide +kernel
theorem dX8_init_126 : decode cX8_init 126 = .ok (.bipush 8, 2) := by decide +kernel
theorem dX8_init_128 : decode cX8_init 128 = .ok (.newarray .int, 2) := by decide +kernel
theorem dX8_init_130 : decode cX8_init 130 = .ok (.putfield 64, 3) := by decide +kernel
theorem dX8_init_133 : decode cX8_init 133 = .ok (.aload_n 0, 1) := by decide +kernel
theorem dX8_init_134 : decode cX8_init 134 = .ok (.bipush 8, 2) := by decide +kernel
theorem dX8_init_136 : decode cX8_init 136 = .ok (.newarray .int, 2) := by decide +kernel
theorem dX8_init_138 : decode cX8_init 138 = .ok (.putfield 67, 3) := by decide +kernel
theorem dX8_init_141 : decode cX8_init 141 = .ok (.aload_n 0, 1) := by decide +kernel
theorem dX8_init_142 : decode cX8_init 142 = .ok (.iconst 4, 1) := by decide +kernel
theorem dX8_init_143 : decode cX8_init 143 = .ok (.newarray .long, 2) := by decide +kernel
theorem dX8_init_145 : decode cX8_init 145 = .ok (.putfield 70, 3) := by decide +kernel
theorem dX8_init_148 : decode cX8_init 148 = .ok (.return_, 1) := by decide +kernel
theorem dX8_cells_0 : decode cX8_cells 0 = .ok (.aload_n 0, 1) := by decide +kernel
theorem dX8_cells_1 : decode cX8_cells 1 = .ok (.getfield 74, 3) := by decide +kernel
theorem dX8_cells_4 : decode cX8_cells 4 = .ok (.aload_n 0, 1) := by decide +kernel
theorem dX8_cells_5 : decode cX8_cells 5 = .ok (.getfield 77, 3) := by decide +kernel
theorem dX8_cells_8 : decode cX8_cells 8 = .ok (.imul, 1) := by decide +kernel
theorem dX8_cells_9 : decode cX8_cells 9 = .ok (.ireturn, 1) := by decide +kernel
theorem dX8_to_0 : decode cX8_to 0 = .ok (.iload_n 1, 1) := by decide +kernel
theorem dX8_to_1 : decode cX8_to 1 = .ok (.aload_n 0, 1) := by decide +kernel
theorem dX8_to_2 : decode cX8_to 2 = .ok (.getfield 74, 3) := by decide +kernel
theorem dX8_to_5 : decode cX8_to 5 = .ok (.irem, 1) := by decide +kernel
theorem dX8_to_6 : decode cX8_to 6 = .ok (.istore_n 3, 1) := by decide +kernel
theorem dX8_to_7 : decode cX8_to 7 = .ok (.iload_n 2, 1) := by decide +kernel
theorem dX8_to_8 : decode cX8_to 8 = .ok (.iconst 3, 1) := by decide +kernel
theorem dX8_to_9 : decode cX8_to 9 = .ok (.iand, 1) := by decide +kernel
theorem dX8_to_10 : decode cX8_to 10 = .ok (.tableswitch 87 0 2 #[26, 45, 63], 26) := by decide +kernel
theorem dX8_to_36 : decode cX8_to 36 = .ok (.iload_n 1, 1) := by decide +kernel
theorem dX8_to_37 : decode cX8_to 37 = .ok (.aload_n 0, 1) := by decide +kernel
theorem dX8_to_38 : decode cX8_to 38 = .ok (.getfield 74, 3) := by decide +kernel
theorem dX8_to_41 : decode cX8_to 41 = .ok (.if_icmp .lt 12, 3) := by decide +kernel
theorem dX8_to_44 : decode cX8_to 44 = .ok (.iload_n 1, 1) := by decide +kernel
theorem dX8_to_45 : decode cX8_to 45 = .ok (.aload_n 0, 1) := by decide +kernel
theorem dX8_to_46 : decode cX8_to 46 = .ok (.getfield 74, 3) := by decide +kernel
theorem dX8_to_49 : decode cX8_to 49 = .ok (.isub, 1) := by decide +kernel
theorem dX8_to_50 : decode cX8_to 50 = .ok (.goto 4, 3) := by decide +kernel
theorem dX8_to_53 : decode cX8_to 53 = .ok (.iconst (-1), 1) := by decide +kernel
theorem dX8_to_54 : decode cX8_to 54 = .ok (.ireturn, 1) := by decide +kernel
theorem dX8_to_55 : decode cX8_to 55 = .ok (.iload_n 3, 1) := by decide +kernel
theorem dX8_to_56 : decode cX8_to 56 = .ok (.iconst 1, 1) := by decide +kernel
theorem dX8_to_57 : decode cX8_to 57 = .ok (.iadd, 1) := by decide +kernel
theorem dX8_to_58 : decode cX8_to 58 = .ok (.aload_n 0, 1) := by decide +kernel
theorem dX8_to_59 : decode cX8_to 59 = .ok (.getfield 74, 3) := by decide +kernel
theorem dX8_to_62 : decode cX8_to 62 = .ok (.if_icmp .ge 9, 3) := by decide +kernel
theorem dX8_to_65 : decode cX8_to 65 = .ok (.iload_n 1, 1) := by decide +kernel
theorem dX8_to_66 : decode cX8_to 66 = .ok (.iconst 1, 1) := by decide +kernel
theorem dX8_to_67 : decode cX8_to 67 = .ok (.iadd, 1) := by decide +kernel
theorem dX8_to_68 : decode cX8_to 68 = .ok (.goto 4, 3) := by decide +kernel
theorem dX8_to_71 : decode cX8_to 71 = .ok (.iconst (-1), 1) := by decide +kernel
theorem dX8_to_72 : decode cX8_to 72 = .ok (.ireturn, 1) := by decide +kernel
theorem dX8_to_73 : decode cX8_to 73 = .ok (.iload_n 1, 1) := by decide +kernel
theorem dX8_to_74 : decode cX8_to 74 = .ok (.aload_n 0, 1) := by decide +kernel
theorem dX8_to_75 : decode cX8_to 75 = .ok (.getfield 74, 3) := by decide +kernel
theorem dX8_to_78 : decode cX8_to 78 = .ok (.iadd, 1) := by decide +kernel
theorem dX8_to_79 : decode cX8_to 79 = .ok (.aload_n 0, 1) := by decide +kernel
theorem dX8_to_80 : decode cX8_to 80 = .ok (.invokevirtual 80, 3) := by decide +kernel
theorem dX8_to_83 : decode cX8_to 83 = .ok (.if_icmp .ge 12, 3) := by decide +kernel
theorem dX8_to_86 : decode cX8_to 86 = .ok (.iload_n 1, 1) := by decide +kernel
theorem dX8_to_87 : decode cX8_to 87 = .ok (.aload_n 0, 1) := by decide +kernel
theorem dX8_to_88 : decode cX8_to 88 = .ok (.getfield 74, 3) := by decide +kernel
theorem dX8_to_91 : decode cX8_to 91 = .ok (.iadd, 1) := by decide +kernel
theorem dX8_to_92 : decode cX8_to 92 = .ok (.goto 4, 3) := by decide +kernel
theorem dX8_to_95 : decode cX8_to 95 = .ok (.iconst (-1), 1) := by decide +kernel
theorem dX8_to_96 : decode cX8_to 96 = .ok (.ireturn, 1) := by decide +kernel
theorem dX8_to_97 : decode cX8_to 97 = .ok (.iload_n 3, 1) := by decide +kernel
theorem dX8_to_98 : decode cX8_to 98 = .ok (.ifCond .le 9, 3) := by decide +kernel
theorem dX8_to_101 : decode cX8_to 101 = .ok (.iload_n 1, 1) := by decide +kernel
theorem dX8_to_102 : decode cX8_to 102 = .ok (.iconst 1, 1) := by decide +kernel
theorem dX8_to_103 : decode cX8_to 103 = .ok (.isub, 1) := by decide +kernel
theorem dX8_to_104 : decode cX8_to 104 = .ok (.goto 4, 3) := by decide +kernel
theorem dX8_to_107 : decode cX8_to 107 = .ok (.iconst (-1), 1) := by decide +kernel
theorem dX8_to_108 : decode cX8_to 108 = .ok (.ireturn, 1) := by decide +kernel
theorem dX8_isOpen_0 : decode cX8_isOpen 0 = .ok (.iload_n 1, 1) := by decide +kernel
theorem dX8_isOpen_1 : decode cX8_isOpen 1 = .ok (.iconst (-1), 1) := by decide +kernel
theorem dX8_isOpen_2 : decode cX8_isOpen 2 = .ok (.if_icmp .eq 17, 3) := by decide +kernel
theorem dX8_isOpen_5 : decode cX8_isOpen 5 = .ok (.aload_n 0, 1) := by decide +kernel
theorem dX8_isOpen_6 : decode cX8_isOpen 6 = .ok (.getfield 24, 3) := by decide +kernel
theorem dX8_isOpen_9 : decode cX8_isOpen 9 = .ok (.iload_n 1, 1) := by decide +kernel
theorem dX8_isOpen_10 : decode cX8_isOpen 10 = .ok (.iaload, 1) := by decide +kernel
theorem dX8_isOpen_11 : decode cX8_isOpen 11 = .ok (.iconst 2, 1) := by decide +kernel
theorem dX8_isOpen_12 : decode cX8_isOpen 12 = .ok (.if_icmp .ge 7, 3) := by decide +kernel
theorem dX8_isOpen_15 : decode cX8_isOpen 15 = .ok (.iconst 1, 1) := by decide +kernel
theorem dX8_isOpen_16 : decode cX8_isOpen 16 = .ok (.goto 4, 3) := by decide +kernel
theorem dX8_isOpen_19 : decode cX8_isOpen 19 = .ok (.iconst 0, 1) := by decide +kernel
theorem dX8_isOpen_20 : decode cX8_isOpen 20 = .ok (.ireturn, 1) := by decide +kernel
theorem dX8_isBeside_0 : decode cX8_isBeside 0 = .ok (.iconst 0, 1) := by decide +kernel
theorem dX8_isBeside_1 : decode cX8_isBeside 1 = .ok (.istore_n 3, 1) := by decide +kernel
theorem dX8_isBeside_2 : decode cX8_isBeside 2 = .ok (.iload_n 3, 1) := by decide +kernel
theorem dX8_isBeside_3 : decode cX8_isBeside 3 = .ok (.iconst 4, 1) := by decide +kernel
theorem dX8_isBeside_4 : decode cX8_isBeside 4 = .ok (.if_icmp .ge 21, 3) := by decide +kernel
theorem dX8_isBeside_7 : decode cX8_isBeside 7 = .ok (.aload_n 0, 1) := by decide +kernel
theorem dX8_isBeside_8 : decode cX8_isBeside 8 = .ok (.iload_n 1, 1) := by decide +kernel
theorem dX8_isBeside_9 : decode cX8_isBeside 9 = .ok (.iload_n 3, 1) := by decide +kernel
theorem dX8_isBeside_10 : decode cX8_isBeside 10 = .ok (.invokevirtual 84, 3) := by decide +kernel
theorem dX8_isBeside_13 : decode cX8_isBeside 13 = .ok (.iload_n 2, 1) := by decide +kernel
theorem dX8_isBeside_14 : decode cX8_isBeside 14 = .ok (.if_icmp .ne 5, 3) := by decide +kernel
theorem dX8_isBeside_17 : decode cX8_isBeside 17 = .ok (.iconst 1, 1) := by decide +kernel
theorem dX8_isBeside_18 : decode cX8_isBeside 18 = .ok (.ireturn, 1) := by decide +kernel
theorem dX8_isBeside_19 : decode cX8_isBeside 19 = .ok (.iinc 3 1, 3) := by decide +kernel
theorem dX8_isBeside_22 : decode cX8_isBeside 22 = .ok (.goto (-20), 3) := by decide +kernel
theorem dX8_isBeside_25 : decode cX8_isBeside 25 = .ok (.iconst 0, 1) := by decide +kernel
theorem dX8_isBeside_26 : decode cX8_isBeside 26 = .ok (.ireturn, 1) := by decide +kernel
theorem dX8_far_0 : decode cX8_far 0 = .ok (.iload_n 1, 1) := by decide +kernel
theorem dX8_far_1 : decode cX8_far 1 = .ok (.aload_n 0, 1) := by decide +kernel
theorem dX8_far_2 : decode cX8_far 2 = .ok (.getfield 74, 3) := by decide +kernel
theorem dX8_far_5 : decode cX8_far 5 = .ok (.irem, 1) := by decide +kernel
theorem dX8_far_6 : decode cX8_far 6 = .ok (.iload_n 2, 1) := by decide +kernel
theorem dX8_far_7 : decode cX8_far 7 = .ok (.aload_n 0, 1) := by decide +kernel
theorem dX8_far_8 : decode cX8_far 8 = .ok (.getfield 74, 3) := by decide +kernel
theorem dX8_far_11 : decode cX8_far 11 = .ok (.irem, 1) := by decide +kernel
theorem dX8_far_12 : decode cX8_far 12 = .ok (.isub, 1) := by decide +kernel
theorem dX8_far_13 : decode cX8_far 13 = .ok (.istore_n 3, 1) := by decide +kernel
theorem dX8_far_14 : decode cX8_far 14 = .ok (.iload_n 1, 1) := by decide +kernel
theorem dX8_far_15 : decode cX8_far 15 = .ok (.aload_n 0, 1) := by decide +kernel
theorem dX8_far_16 : decode cX8_far 16 = .ok (.getfield 74, 3) := by decide +kernel
theorem dX8_far_19 : decode cX8_far 19 = .ok (.idiv, 1) := by decide +kernel
theorem dX8_far_20 : decode cX8_far 20 = .ok (.iload_n 2, 1) := by decide +kernel
theorem dX8_far_21 : decode cX8_far 21 = .ok (.aload_n 0, 1) := by decide +kernel
theorem dX8_far_22 : decode cX8_far 22 = .ok (.getfield 74, 3) := by decide +kernel
theorem dX8_far_25 : decode cX8_far 25 = .ok (.idiv, 1) := by decide +kernel
theorem dX8_far_26 : decode cX8_far 26 = .ok (.isub, 1) := by decide +kernel
theorem dX8_far_27 : decode cX8_far 27 = .ok (.istore 4, 2) := by decide +kernel
theorem dX8_far_29 : decode cX8_far 29 = .ok (.iload_n 3, 1) := by decide +kernel
theorem dX8_far_30 : decode cX8_far 30 = .ok (.ifCond .ge 8, 3) := by decide +kernel
theorem dX8_far_33 : decode cX8_far 33 = .ok (.iload_n 3, 1) := by decide +kernel
theorem dX8_far_34 : decode cX8_far 34 = .ok (.ineg, 1) := by decide +kernel
theorem dX8_far_35 : decode cX8_far 35 = .ok (.goto 4, 3) := by decide +kernel
theorem dX8_far_38 : decode cX8_far 38 = .ok (.iload_n 3, 1) := by decide +kernel
theorem dX8_far_39 : decode cX8_far 39 = .ok (.iload 4, 2) := by decide +kernel
theorem dX8_far_41 : decode cX8_far 41 = .ok (.ifCond .ge 9, 3) := by decide +kernel
theorem dX8_far_44 : decode cX8_far 44 = .ok (.iload 4, 2) := by decide +kernel
theorem dX8_far_46 : decode cX8_far 46 = .ok (.ineg, 1) := by decide +kernel
theorem dX8_far_47 : decode cX8_far 47 = .ok (.goto 5, 3) := by decide +kernel
theorem dX8_far_50 : decode cX8_far 50 = .ok (.iload 4, 2) := by decide +kernel
theorem dX8_far_52 : decode cX8_far 52 = .ok (.iadd, 1) := by decide +kernel
theorem dX8_far_53 : decode cX8_far 53 = .ok (.ireturn, 1) := by decide +kernel
theorem dX9_init_0 : decode cX9_init 0 = .ok (.aload_n 0, 1) := by decide +kernel
theorem dX9_init_1 : decode cX9_init 1 = .ok (.invokespecial 3, 3) := by decide +kernel
theorem dX9_init_4 : decode cX9_init 4 = .ok (.aload_n 0, 1) := by decide +kernel
theorem dX9_init_5 : decode cX9_init 5 = .ok (.iconst (-1), 1) := by decide +kernel
theorem dX9_init_6 : decode cX9_init 6 = .ok (.putfield 9, 3) := by decide +kernel
theorem dX9_init_9 : decode cX9_init 9 = .ok (.aload_n 0, 1) := by decide +kernel
theorem dX9_init_10 : decode cX9_init 10 = .ok (.sipush 900, 3) := by decide +kernel
theorem dX9_init_13 : decode cX9_init 13 = .ok (.newarray .byte, 2) := by decide +kernel
theorem dX9_init_15 : decode cX9_init 15 = .ok (.putfield 13, 3) := by decide +kernel
theorem dX9_init_18 : decode cX9_init 18 = .ok (.aload_n 0, 1) := by decide +kernel
theorem dX9_init_19 : decode cX9_init 19 = .ok (.bipush 8, 2) := by decide +kernel
theorem dX9_init_21 : decode cX9_init 21 = .ok (.newarray .int, 2) := by decide +kernel
theorem dX9_init_23 : decode cX9_init 23 = .ok (.putfield 17, 3) := by decide +kernel
theorem dX9_init_26 : decode cX9_init 26 = .ok (.aload_n 0, 1) := by decide +kernel
theorem dX9_init_27 : decode cX9_init 27 = .ok (.sipush 298, 3) := by decide +kernel
theorem dX9_init_30 : decode cX9_init 30 = .ok (.newarray .int, 2) := by decide +kernel
theorem dX9_init_32 : decode cX9_init 32 = .ok (.putfield 21, 3) := by decide +kernel
theorem dX9_init_35 : decode cX9_init 35 = .ok (.aload_n 0, 1) := by decide +kernel
theorem dX9_init_36 : decode cX9_init 36 = .ok (.sipush 298, 3) := by decide +kernel
theorem dX9_init_39 : decode cX9_init 39 = .ok (.newarray .int, 2) := by decide +kernel
theorem dX9_init_41 : decode cX9_init 41 = .ok (.putfield 24, 3) := by decide +kernel
theorem dX9_init_44 : decode cX9_init 44 = .ok (.aload_n 0, 1) := by decide +kernel
theorem dX9_init_45 : decode cX9_init 45 = .ok (.sipush 2980, 3) := by decide +kernel
theorem dX9_init_48 : decode cX9_init 48 = .ok (.newarray .int, 2) := by decide +kernel
theorem dX9_init_50 : decode cX9_init 50 = .ok (.putfield 27, 3) := by decide +kernel
theorem dX9_init_53 : decode cX9_init 53 = .ok (.aload_n 0, 1) := by decide +kernel
theorem dX9_init_54 : decode cX9_init 54 = .ok (.sipush 894, 3) := by decide +kernel
theorem dX9_init_57 : decode cX9_init 57 = .ok (.newarray .int, 2) := by decide +kernel
theorem dX9_init_59 : decode cX9_init 59 = .ok (.putfield 30, 3) := by decide +kernel
theorem dX9_init_62 : decode cX9_init 62 = .ok (.aload_n 0, 1) := by decide +kernel
theorem dX9_init_63 : decode cX9_init 63 = .ok (.bipush 48, 2) := by decide +kernel
theorem dX9_init_65 : decode cX9_init 65 = .ok (.newarray .int, 2) := by decide +kernel
theorem dX9_init_67 : decode cX9_init 67 = .ok (.putfield 33, 3) := by decide +kernel
theorem dX9_init_70 : decode cX9_init 70 = .ok (.aload_n 0, 1) := by decide +kernel
theorem dX9_init_71 : decode cX9_init 71 = .ok (.bipush 48, 2) := by decide +kernel
theorem dX9_init_73 : decode cX9_init 73 = .ok (.newarray .int, 2) := by decide +kernel
theorem dX9_init_75 : decode cX9_init 75 = .ok (.putfield 36, 3) := by decide +kernel
theorem dX9_init_78 : decode cX9_init 78 = .ok (.aload_n 0, 1) := by decide +kernel
theorem dX9_init_79 : decode cX9_init 79 = .ok (.bipush 12, 2) := by decide +kernel
theorem dX9_init_81 : decode cX9_init 81 = .ok (.newarray .int, 2) := by decide +kernel
theorem dX9_init_83 : decode cX9_init 83 = .ok (.putfield 39, 3) := by decide +kernel
theorem dX9_init_86 : decode cX9_init 86 = .ok (.aload_n 0, 1) := by decide +kernel
theorem dX9_init_87 : decode cX9_init 87 = .ok (.sipush 128, 3) := by decide +kernel
theorem dX9_init_90 : decode cX9_init 90 = .ok (.newarray .int, 2) := by decide +kernel
theorem dX9_init_92 : decode cX9_init 92 = .ok (.putfield 42, 3) := by decide +kernel
theorem dX9_init_95 : decode cX9_init 95 = .ok (.aload_n 0, 1) := by decide +kernel
theorem dX9_init_96 : decode cX9_init 96 = .ok (.sipush 128, 3) := by decide +kernel
theorem dX9_init_99 : decode cX9_init 99 = .ok (.newarray .int, 2) := by decide +kernel
theorem dX9_init_101 : decode cX9_init 101 = .ok (.putfield 45, 3) := by decide +kernel
theorem dX9_init_104 : decode cX9_init 104 = .ok (.aload_n 0, 1) := by decide +kernel
theorem dX9_init_105 : decode cX9_init 105 = .ok (.bipush 16, 2) := by decide +kernel
theorem dX9_init_107 : decode cX9_init 107 = .ok (.newarray .int, 2) := by decide +kernel
theorem dX9_init_109 : decode cX9_init 109 = .ok (.putfield 48, 3) := by decide +kernel
theorem dX9_init_112 : decode cX9_init 112 = .ok (.aload_n 0, 1) := by decide +kernel
theorem dX9_init_113 : decode cX9_init 113 = .ok (.bipush 16, 2) := by decide +kernel
theorem dX9_init_115 : decode cX9_init 115 = .ok (.newarray .int, 2) := by decide +kernel
theorem dX9_init_117 : decode cX9_init 117 = .ok (.putfield 51, 3) := by decide +kernel
theorem dX9_init_120 : decode cX9_init 120 = .ok (.return_, 1) := by decide +kernel
theorem dX9_thrown_0 : decode cX9_thrown 0 = .ok (.aload_n 0, 1) := by decide +kernel
theorem dX9_thrown_1 : decode cX9_thrown 1 = .ok (.getfield 54, 3) := by decide +kernel
theorem dX9_thrown_4 : decode cX9_thrown 4 = .ok (.ireturn, 1) := by decide +kernel
theorem dX9_refused_0 : decode cX9_refused 0 = .ok (.aload_n 0, 1) := by decide +kernel
theorem dX9_refused_1 : decode cX9_refused 1 = .ok (.iload_n 1, 1) := by decide +kernel
theorem dX9_refused_2 : decode cX9_refused 2 = .ok (.putfield 57, 3) := by decide +kernel
theorem dX9_refused_5 : decode cX9_refused 5 = .ok (.aload_n 0, 1) := by decide +kernel
theorem dX9_refused_6 : decode cX9_refused 6 = .ok (.iconst (-1), 1) := by decide +kernel
theorem dX9_refused_7 : decode cX9_refused 7 = .ok (.putfield 9, 3) := by decide +kernel
theorem dX9_refused_10 : decode cX9_refused 10 = .ok (.iconst (-1), 1) := by decide +kernel
theorem dX9_refused_11 : decode cX9_refused 11 = .ok (.ireturn, 1) := by decide +kernel
theorem dX9_denied_0 : decode cX9_denied 0 = .ok (.aload_n 0, 1) := by decide +kernel
theorem dX9_denied_1 : decode cX9_denied 1 = .ok (.iload_n 1, 1) := by decide +kernel
theorem dX9_denied_2 : decode cX9_denied 2 = .ok (.invokevirtual 60, 3) := by decide +kernel
theorem dX9_denied_5 : decode cX9_denied 5 = .ok (.pop, 1) := by decide +kernel
theorem dX9_denied_6 : decode cX9_denied 6 = .ok (.iconst 0, 1) := by decide +kernel
theorem dX9_denied_7 : decode cX9_denied 7 = .ok (.ireturn, 1) := by decide +kernel
theorem dX9_good_0 : decode cX9_good 0 = .ok (.aload_n 0, 1) := by decide +kernel
theorem dX9_good_1 : decode cX9_good 1 = .ok (.iconst 0, 1) := by decide +kernel
theorem dX9_good_2 : decode cX9_good 2 = .ok (.putfield 57, 3) := by decide +kernel
theorem dX9_good_5 : decode cX9_good 5 = .ok (.aload_n 0, 1) := by decide +kernel
theorem dX9_good_6 : decode cX9_good 6 = .ok (.iconst (-1), 1) := by decide +kernel
theorem dX9_good_7 : decode cX9_good 7 = .ok (.putfield 9, 3) := by decide +kernel
theorem dX9_good_10 : decode cX9_good 10 = .ok (.iload_n 1, 1) := by decide +kernel
theorem dX9_good_11 : decode cX9_good 11 = .ok (.ireturn, 1) := by decide +kernel
theorem dX9_granted_0 : decode cX9_granted 0 = .ok (.aload_n 0, 1) := by decide +kernel
theorem dX9_granted_1 : decode cX9_granted 1 = .ok (.iconst 0, 1) := by decide +kernel
theorem dX9_granted_2 : decode cX9_granted 2 = .ok (.invokevirtual 64, 3) := by decide +kernel
theorem dX9_granted_5 : decode cX9_granted 5 = .ok (.pop, 1) := by decide +kernel
theorem dX9_granted_6 : decode cX9_granted 6 = .ok (.iconst 1, 1) := by decide +kernel
theorem dX9_granted_7 : decode cX9_granted 7 = .ok (.ireturn, 1) := by decide +kernel
theorem dX9_in_0 : decode cX9_in 0 = .ok (.iload_n 0, 1) := by decide +kernel
theorem dX9_in_1 : decode cX9_in 1 = .ok (.iload_n 1, 1) := by decide +kernel
theorem dX9_in_2 : decode cX9_in 2 = .ok (.if_icmp .lt 12, 3) := by decide +kernel
theorem dX9_in_5 : decode cX9_in 5 = .ok (.iload_n 0, 1) := by decide +kernel
theorem dX9_in_6 : decode cX9_in 6 = .ok (.iload_n 2, 1) := by decide +kernel
theorem dX9_in_7 : decode cX9_in 7 = .ok (.if_icmp .gt 7, 3) := by decide +kernel
theorem dX9_in_10 : decode cX9_in 10 = .ok (.iconst 1, 1) := by decide +kernel
theorem dX9_in_11 : decode cX9_in 11 = .ok (.goto 4, 3) := by decide +kernel
theorem dX9_in_14 : decode cX9_in 14 = .ok (.iconst 0, 1) := by decide +kernel
theorem dX9_in_15 : decode cX9_in 15 = .ok (.ireturn, 1) := by decide +kernel
theorem dX9_byteAt_0 : decode cX9_byteAt 0 = .ok (.iload_n 1, 1) := by decide +kernel
theorem dX9_byteAt_1 : decode cX9_byteAt 1 = .ok (.aload_n 0, 1) := by decide +kernel
theorem dX9_byteAt_2 : decode cX9_byteAt 2 = .ok (.getfield 67, 3) := by decide +kernel
theorem dX9_byteAt_5 : decode cX9_byteAt 5 = .ok (.if_icmp .ge 16, 3) := by decide +kernel
theorem dX9_byteAt_8 : decode cX9_byteAt 8 = .ok (.aload_n 0, 1) := by decide +kernel
theorem dX9_byteAt_9 : decode cX9_byteAt 9 = .ok (.getfield 13, 3) := by decide +kernel
theorem dX9_byteAt_12 : decode cX9_byteAt 12 = .ok (.iload_n 1, 1) := by decide +kernel
theorem dX9_byteAt_13 : decode cX9_byteAt 13 = .ok (.baload, 1) := by decide +kernel
theorem dX9_byteAt_14 : decode cX9_byteAt 14 = .ok (.sipush 255, 3) := by decide +kernel
theorem dX9_byteAt_17 : decode cX9_byteAt 17 = .ok (.iand, 1) := by decide +kernel
theorem dX9_byteAt_18 : decode cX9_byteAt 18 = .ok (.goto 4, 3) := by decide +kernel
theorem dX9_byteAt_21 : decode cX9_byteAt 21 = .ok (.iconst (-1), 1) := by decide +kernel
theorem dX9_byteAt_22 : decode cX9_byteAt 22 = .ok (.ireturn, 1) := by decide +kernel
theorem dX9_isLetter_0 : decode cX9_isLetter 0 = .ok (.iload_n 0, 1) := by decide +kernel
theorem dX9_isLetter_1 : decode cX9_isLetter 1 = .ok (.bipush 97, 2) := by decide +kernel
theorem dX9_isLetter_3 : decode cX9_isLetter 3 = .ok (.if_icmp .lt 13, 3) := by decide +kernel
theorem dX9_isLetter_6 : decode cX9_isLetter 6 = .ok (.iload_n 0, 1) := by decide +kernel
theorem dX9_isLetter_7 : decode cX9_isLetter 7 = .ok (.bipush 122, 2) := by decide +kernel
theorem dX9_isLetter_9 : decode cX9_isLetter 9 = .ok (.if_icmp .gt 7, 3) := by decide +kernel
theorem dX9_isLetter_12 : decode cX9_isLetter 12 = .ok (.iconst 1, 1) := by decide +kernel
theorem dX9_isLetter_13 : decode cX9_isLetter 13 = .ok (.goto 4, 3) := by decide +kernel
theorem dX9_isLetter_16 : decode cX9_isLetter 16 = .ok (.iconst 0, 1) := by decide +kernel
theorem dX9_isLetter_17 : decode cX9_isLetter 17 = .ok (.ireturn, 1) := by decide +kernel
theorem dX9_isDigit_0 : decode cX9_isDigit 0 = .ok (.iload_n 0, 1) := by decide +kernel
theorem dX9_isDigit_1 : decode cX9_isDigit 1 = .ok (.bipush 48, 2) := by decide +kernel
theorem dX9_isDigit_3 : decode cX9_isDigit 3 = .ok (.if_icmp .lt 13, 3) := by decide +kernel
theorem dX9_isDigit_6 : decode cX9_isDigit 6 = .ok (.iload_n 0, 1) := by decide +kernel
theorem dX9_isDigit_7 : decode cX9_isDigit 7 = .ok (.bipush 57, 2) := by decide +kernel
theorem dX9_isDigit_9 : decode cX9_isDigit 9 = .ok (.if_icmp .gt 7, 3) := by decide +kernel
theorem dX9_isDigit_12 : decode cX9_isDigit 12 = .ok (.iconst 1, 1) := by decide +kernel
theorem dX9_isDigit_13 : decode cX9_isDigit 13 = .ok (.goto 4, 3) := by decide +kernel
theorem dX9_isDigit_16 : decode cX9_isDigit 16 = .ok (.iconst 0, 1) := by decide +kernel
theorem dX9_isDigit_17 : decode cX9_isDigit 17 = .ok (.ireturn, 1) := by decide +kernel
theorem dX9_wordOf_0 : decode cX9_wordOf 0 = .ok (.lconst 0, 1) := by decide +kernel
theorem dX9_wordOf_1 : decode cX9_wordOf 1 = .ok (.lstore_n 1, 1) := by decide +kernel
theorem dX9_wordOf_2 : decode cX9_wordOf 2 = .ok (.iconst 0, 1) := by decide +kernel
theorem dX9_wordOf_3 : decode cX9_wordOf 3 = .ok (.istore_n 3, 1) := by decide +kernel
theorem dX9_wordOf_4 : decode cX9_wordOf 4 = .ok (.iload_n 3, 1) := by decide +kernel
theorem dX9_wordOf_5 : decode cX9_wordOf 5 = .ok (.aload_n 0, 1) := by decide +kernel
theorem dX9_wordOf_6 : decode cX9_wordOf 6 = .ok (.invokevirtual 70, 3) := by decide +kernel
theorem dX9_wordOf_9 : decode cX9_wordOf 9 = .ok (.if_icmp .ge 27, 3) := by decide +kernel
theorem dX9_wordOf_12 : decode cX9_wordOf 12 = .ok (.ldc2_w 76, 3) := by decide +kernel
theorem dX9_wordOf_15 : decode cX9_wordOf 15 = .ok (.lload_n 1, 1) := by decide +kernel
theorem dX9_wordOf_16 : decode cX9_wordOf 16 = .ok (.lmul, 1) := by decide +kernel
theorem dX9_wordOf_17 : decode cX9_wordOf 17 = .ok (.aload_n 0, 1) := by decide +kernel
theorem dX9_wordOf_18 : decode cX9_wordOf 18 = .ok (.iload_n 3, 1) := by decide +kernel
theorem dX9_wordOf_19 : decode cX9_wordOf 19 = .ok (.invokevirtual 78, 3) := by decide +kernel
theorem dX9_wordOf_22 : decode cX9_wordOf 22 = .ok (.bipush 97, 2) := by decide +kernel
theorem dX9_wordOf_24 : decode cX9_wordOf 24 = .ok (.isub, 1) := by decide +kernel
theorem dX9_wordOf_25 : decode cX9_wordOf 25 = .ok (.iconst 1, 1) := by decide +kernel
theorem dX9_wordOf_26 : decode cX9_wordOf 26 = .ok (.iadd, 1) := by decide +kernel
theorem dX9_wordOf_27 : decode cX9_wordOf 27 = .ok (.i2l, 1) := by decide +kernel
theorem dX9_wordOf_28 : decode cX9_wordOf 28 = .ok (.ladd, 1) := by decide +kernel
theorem dX9_wordOf_29 : decode cX9_wordOf 29 = .ok (.lstore_n 1, 1) := by decide +kernel
theorem dX9_wordOf_30 : decode cX9_wordOf 30 = .ok (.iinc 3 1, 3) := by decide +kernel
theorem dX9_wordOf_33 : decode cX9_wordOf 33 = .ok (.goto (-29), 3) := by decide +kernel
theorem dX9_wordOf_36 : decode cX9_wordOf 36 = .ok (.lload_n 1, 1) := by decide +kernel
theorem dX9_wordOf_37 : decode cX9_wordOf 37 = .ok (.lreturn, 1) := by decide +kernel
theorem dX9_goesOn_0 : decode cX9_goesOn 0 = .ok (.aload_n 0, 1) := by decide +kernel
theorem dX9_goesOn_1 : decode cX9_goesOn 1 = .ok (.getfield 82, 3) := by decide +kernel
theorem dX9_goesOn_4 : decode cX9_goesOn 4 = .ok (.iconst 5, 1) := by decide +kernel
theorem dX9_goesOn_5 : decode cX9_goesOn 5 = .ok (.if_icmp .ne 4, 3) := by decide +kernel
theorem dX9_goesOn_8 : decode cX9_goesOn 8 = .ok (.return_, 1) := by decide +kernel
theorem dX9_goesOn_9 : decode cX9_goesOn 9 = .ok (.aload_n 0, 1) := by decide +kernel
theorem dX9_goesOn_10 : decode cX9_goesOn 10 = .ok (.aload_n 0, 1) := by decide +kernel
theorem dX9_goesOn_11 : decode cX9_goesOn 11 = .ok (.getfield 85, 3) := by decide +kernel
theorem dX9_goesOn_14 : decode cX9_goesOn 14 = .ok (.invokevirtual 88, 3) := by decide +kernel
theorem dX9_goesOn_17 : decode cX9_goesOn 17 = .ok (.bipush 32, 2) := by decide +kernel
theorem dX9_goesOn_19 : decode cX9_goesOn 19 = .ok (.if_icmp .ne 16, 3) := by decide +kernel
theorem dX9_goesOn_22 : decode cX9_goesOn 22 = .ok (.aload_n 0, 1) := by decide +kernel
theorem dX9_goesOn_23 : decode cX9_goesOn 23 = .ok (.dup, 1) := by decide +kernel
theorem dX9_goesOn_24 : decode cX9_goesOn 24 = .ok (.getfield 85, 3) := by decide +kernel
theorem dX9_goesOn_27 : decode cX9_goesOn 27 = .ok (.iconst 1, 1) := by decide +kernel
theorem dX9_goesOn_28 : decode cX9_goesOn 28 = .ok (.iadd, 1) := by decide +kernel
theorem dX9_goesOn_29 : decode cX9_goesOn 29 = .ok (.putfield 85, 3) := by decide +kernel
theorem dX9_goesOn_32 : decode cX9_goesOn 32 = .ok (.goto (-23), 3) := by decide +kernel
theorem dX9_goesOn_35 : decode cX9_goesOn 35 = .ok (.aload_n 0, 1) := by decide +kernel
theorem dX9_goesOn_36 : decode cX9_goesOn 36 = .ok (.aload_n 0, 1) := by decide +kernel
theorem dX9_goesOn_37 : decode cX9_goesOn 37 = .ok (.getfield 85, 3) := by decide +kernel
theorem dX9_goesOn_40 : decode cX9_goesOn 40 = .ok (.putfield 91, 3) := by decide +kernel
theorem dX9_goesOn_43 : decode cX9_goesOn 43 = .ok (.aload_n 0, 1) := by decide +kernel
theorem dX9_goesOn_44 : decode cX9_goesOn 44 = .ok (.iconst 0, 1) := by decide +kernel
theorem dX9_goesOn_45 : decode cX9_goesOn 45 = .ok (.putfield 82, 3) := by decide +kernel
theorem dX9_goesOn_48 : decode cX9_goesOn 48 = .ok (.aload_n 0, 1) := by decide +kernel
theorem dX9_goesOn_49 : decode cX9_goesOn 49 = .ok (.iconst 0, 1) := by decide +kernel
theorem dX9_goesOn_50 : decode cX9_goesOn 50 = .ok (.putfield 94, 3) := by decide +kernel
theorem dX9_goesOn_53 : decode cX9_goesOn 53 = .ok (.aload_n 0, 1) := by decide +kernel
theorem dX9_goesOn_54 : decode cX9_goesOn 54 = .ok (.aload_n 0, 1) := by decide +kernel
theorem dX9_goesOn_55 : decode cX9_goesOn 55 = .ok (.getfield 85, 3) := by decide +kernel
theorem dX9_goesOn_58 : decode cX9_goesOn 58 = .ok (.invokevirtual 88, 3) := by decide +kernel
theorem dX9_goesOn_61 : decode cX9_goesOn 61 = .ok (.istore_n 1, 1) := by decide +kernel
theorem dX9_goesOn_62 : decode cX9_goesOn 62 = .ok (.iconst 0, 1) := by decide +kernel
theorem dX9_goesOn_63 : decode cX9_goesOn 63 = .ok (.istore_n 2, 1) := by decide +kernel
theorem dX9_goesOn_64 : decode cX9_goesOn 64 = .ok (.iload_n 1, 1) := by decide +kernel
theorem dX9_goesOn_65 : decode cX9_goesOn 65 = .ok (.iconst (-1), 1) := by decide +kernel
theorem dX9_goesOn_66 : decode cX9_goesOn 66 = .ok (.if_icmp .ne 11, 3) := by decide +kernel
theorem dX9_goesOn_69 : decode cX9_goesOn 69 = .ok (.aload_n 0, 1) := by decide +kernel
theorem dX9_goesOn_70 : decode cX9_goesOn 70 = .ok (.iconst 1, 1) := by decide +kernel
theorem dX9_goesOn_71 : decode cX9_goesOn 71 = .ok (.putfield 82, 3) := by decide +kernel
theorem dX9_goesOn_74 : decode cX9_goesOn 74 = .ok (.goto 224, 3) := by decide +kernel
theorem dX9_goesOn_77 : decode cX9_goesOn 77 = .ok (.iload_n 1, 1) := by decide +kernel
theorem dX9_goesOn_78 : decode cX9_goesOn 78 = .ok (.invokestatic 97, 3) := by decide +kernel
theorem dX9_goesOn_81 : decode cX9_goesOn 81 = .ok (.ifCond .eq 102, 3) := by decide +kernel
theorem dX9_goesOn_84 : decode cX9_goesOn 84 = .ok (.aload_n 0, 1) := by decide +kernel
theorem dX9_goesOn_85 : decode cX9_goesOn 85 = .ok (.lconst 0, 1) := by decide +kernel
theorem dX9_goesOn_86 : decode cX9_goesOn 86 = .ok (.putfield 101, 3) := by decide +kernel
theorem dX9_goesOn_89 : decode cX9_goesOn 89 = .ok (.aload_n 0, 1) := by decide +kernel
theorem dX9_goesOn_90 : decode cX9_goesOn 90 = .ok (.aload_n 0, 1) := by decide +kernel
theorem dX9_goesOn_91 : decode cX9_goesOn 91 = .ok (.getfield 85, 3) := by decide +kernel
theorem dX9_goesOn_94 : decode cX9_goesOn 94 = .ok (.invokevirtual 88, 3) := by decide +kernel
theorem dX9_goesOn_97 : decode cX9_goesOn 97 = .ok (.invokestatic 97, 3) := by decide +kernel
theorem dX9_goesOn_100 : decode cX9_goesOn 100 = .ok (.ifCond .eq 64, 3) := by decide +kernel
theorem dX9_goesOn_103 : decode cX9_goesOn 103 = .ok (.iload_n 2, 1) := by decide +kernel
theorem dX9_goesOn_104 : decode cX9_goesOn 104 = .ok (.bipush 8, 2) := by decide +kernel
theorem dX9_goesOn_106 : decode cX9_goesOn 106 = .ok (.if_icmp .ge 42, 3) := by decide +kernel
theorem dX9_goesOn_109 : decode cX9_goesOn 109 = .ok (.aload_n 0, 1) := by decide +kernel
theorem dX9_goesOn_110 : decode cX9_goesOn 110 = .ok (.getfield 17, 3) := by decide +kernel
theorem dX9_goesOn_113 : decode cX9_goesOn 113 = .ok (.iload_n 2, 1) := by decide +kernel
theorem dX9_goesOn_114 : decode cX9_goesOn 114 = .ok (.aload_n 0, 1) := by decide +kernel
theorem dX9_goesOn_115 : decode cX9_goesOn 115 = .ok (.aload_n 0, 1) := by decide +kernel
theorem dX9_goesOn_116 : decode cX9_goesOn 116 = .ok (.getfield 85, 3) := by decide +kernel
theorem dX9_goesOn_119 : decode cX9_goesOn 119 = .ok (.invokevirtual 88, 3) := by decide +kernel
theorem dX9_goesOn_122 : decode cX9_goesOn 122 = .ok (.iastore, 1) := by decide +kernel
theorem dX9_goesOn_123 : decode cX9_goesOn 123 = .ok (.aload_n 0, 1) := by decide +kernel
theorem dX9_goesOn_124 : decode cX9_goesOn 124 = .ok (.ldc2_w 76, 3) := by decide +kernel
theorem dX9_goesOn_127 : decode cX9_goesOn 127 = .ok (.aload_n 0, 1) := by decide +kernel
theorem dX9_goesOn_128 : decode cX9_goesOn 128 = .ok (.getfield 101, 3) := by decide +kernel
theorem dX9_goesOn_131 : decode cX9_goesOn 131 = .ok (.lmul, 1) := by decide +kernel
theorem dX9_goesOn_132 : decode cX9_goesOn 132 = .ok (.aload_n 0, 1) := by decide +kernel
theorem dX9_goesOn_133 : decode cX9_goesOn 133 = .ok (.getfield 17, 3) := by decide +kernel
theorem dX9_goesOn_136 : decode cX9_goesOn 136 = .ok (.iload_n 2, 1) := by decide +kernel
theorem dX9_goesOn_137 : decode cX9_goesOn 137 = .ok (.iaload, 1) := by decide +kernel
theorem dX9_goesOn_138 : decode cX9_goesOn 138 = .ok (.bipush 97, 2) := by decide +kernel
theorem dX9_goesOn_140 : decode cX9_goesOn 140 = .ok (.isub, 1) := by decide +kernel
theorem dX9_goesOn_141 : decode cX9_goesOn 141 = .ok (.iconst 1, 1) := by decide +kernel
theorem dX9_goesOn_142 : decode cX9_goesOn 142 = .ok (.iadd, 1) := by decide +kernel
theorem dX9_goesOn_143 : decode cX9_goesOn 143 = .ok (.i2l, 1) := by decide +kernel
theorem dX9_goesOn_144 : decode cX9_goesOn 144 = .ok (.ladd, 1) := by decide +kernel
theorem dX9_goesOn_145 : decode cX9_goesOn 145 = .ok (.putfield 101, 3) := by decide +kernel
theorem dX9_goesOn_148 : decode cX9_goesOn 148 = .ok (.iinc 2 1, 3) := by decide +kernel
theorem dX9_goesOn_151 : decode cX9_goesOn 151 = .ok (.aload_n 0, 1) := by decide +kernel
theorem dX9_goesOn_152 : decode cX9_goesOn 152 = .ok (.dup, 1) := by decide +kernel
theorem dX9_goesOn_153 : decode cX9_goesOn 153 = .ok (.getfield 85, 3) := by decide +kernel
theorem dX9_goesOn_156 : decode cX9_goesOn 156 = .ok (.iconst 1, 1) := by decide +kernel
theorem dX9_goesOn_157 : decode cX9_goesOn 157 = .ok (.iadd, 1) := by decide +kernel
theorem dX9_goesOn_158 : decode cX9_goesOn 158 = .ok (.putfield 85, 3) := by decide +kernel
theorem dX9_goesOn_161 : decode cX9_goesOn 161 = .ok (.goto (-72), 3) := by decide +kernel
theorem dX9_goesOn_164 : decode cX9_goesOn 164 = .ok (.aload_n 0, 1) := by decide +kernel
theorem dX9_goesOn_165 : decode cX9_goesOn 165 = .ok (.iload_n 2, 1) := by decide +kernel
theorem dX9_goesOn_166 : decode cX9_goesOn 166 = .ok (.putfield 105, 3) := by decide +kernel
theorem dX9_goesOn_169 : decode cX9_goesOn 169 = .ok (.iload_n 2, 1) := by decide +kernel
theorem dX9_goesOn_170 : decode cX9_goesOn 170 = .ok (.bipush 8, 2) := by decide +kernel
theorem dX9_goesOn_172 : decode cX9_goesOn 172 = .ok (.if_icmp .gt 126, 3) := by decide +kernel
theorem dX9_goesOn_175 : decode cX9_goesOn 175 = .ok (.aload_n 0, 1) := by decide +kernel
theorem dX9_goesOn_176 : decode cX9_goesOn 176 = .ok (.iconst 2, 1) := by decide +kernel
theorem dX9_goesOn_177 : decode cX9_goesOn 177 = .ok (.putfield 82, 3) := by decide +kernel
theorem dX9_goesOn_180 : decode cX9_goesOn 180 = .ok (.goto 118, 3) := by decide +kernel
theorem dX9_goesOn_183 : decode cX9_goesOn 183 = .ok (.iload_n 1, 1) := by decide +kernel
theorem dX9_goesOn_184 : decode cX9_goesOn 184 = .ok (.invokestatic 108, 3) := by decide +kernel
theorem dX9_goesOn_187 : decode cX9_goesOn 187 = .ok (.ifCond .eq 79, 3) := by decide +kernel
theorem dX9_goesOn_190 : decode cX9_goesOn 190 = .ok (.aload_n 0, 1) := by decide +kernel
theorem dX9_goesOn_191 : decode cX9_goesOn 191 = .ok (.iconst 0, 1) := by decide +kernel
theorem dX9_goesOn_192 : decode cX9_goesOn 192 = .ok (.putfield 111, 3) := by decide +kernel
theorem dX9_goesOn_195 : decode cX9_goesOn 195 = .ok (.aload_n 0, 1) := by decide +kernel
theorem dX9_goesOn_196 : decode cX9_goesOn 196 = .ok (.aload_n 0, 1) := by decide +kernel
theorem dX9_goesOn_197 : decode cX9_goesOn 197 = .ok (.getfield 85, 3) := by decide +kernel
theorem dX9_goesOn_200 : decode cX9_goesOn 200 = .ok (.invokevirtual 88, 3) := by decide +kernel
theorem dX9_goesOn_203 : decode cX9_goesOn 203 = .ok (.invokestatic 108, 3) := by decide +kernel
theorem dX9_goesOn_206 : decode cX9_goesOn 206 = .ok (.ifCond .eq 47, 3) := by decide +kernel
theorem dX9_goesOn_209 : decode cX9_goesOn 209 = .ok (.iload_n 2, 1) := by decide +kernel
theorem dX9_goesOn_210 : decode cX9_goesOn 210 = .ok (.iconst 3, 1) := by decide +kernel
theorem dX9_goesOn_211 : decode cX9_goesOn 211 = .ok (.if_icmp .ge 26, 3) := by decide +kernel
theorem dX9_goesOn_214 : decode cX9_goesOn 214 = .ok (.aload_n 0, 1) := by decide +kernel
theorem dX9_goesOn_215 : decode cX9_goesOn 215 = .ok (.bipush 10, 2) := by decide +kernel
theorem dX9_goesOn_217 : decode cX9_goesOn 217 = .ok (.aload_n 0, 1) := by decide +kernel
theorem dX9_goesOn_218 : decode cX9_goesOn 218 = .ok (.getfield 111, 3) := by decide +kernel
theorem dX9_goesOn_221 : decode cX9_goesOn 221 = .ok (.imul, 1) := by decide +kernel
theorem dX9_goesOn_222 : decode cX9_goesOn 222 = .ok (.aload_n 0, 1) := by decide +kernel
theorem dX9_goesOn_223 : decode cX9_goesOn 223 = .ok (.aload_n 0, 1) := by decide +kernel
theorem dX9_goesOn_224 : decode cX9_goesOn 224 = .ok (.getfield 85, 3) := by decide +kernel
theorem dX9_goesOn_227 : decode cX9_goesOn 227 = .ok (.invokevirtual 88, 3) := by decide +kernel
theorem dX9_goesOn_230 : decode cX9_goesOn 230 = .ok (.iadd, 1) := by decide +kernel
theorem dX9_goesOn_231 : decode cX9_goesOn 231 = .ok (.bipush 48, 2) := by decide +kernel
theorem dX9_goesOn_233 : decode cX9_goesOn 233 = .ok (.isub, 1) := by decide +kernel
theorem dX9_goesOn_234 : decode cX9_goesOn 234 = .ok (.putfield 111, 3) := by decide +kernel
theorem dX9_goesOn_237 : decode cX9_goesOn 237 = .ok (.iinc 2 1, 3) := by decide +kernel
theorem dX9_goesOn_240 : decode cX9_goesOn 240 = .ok (.aload_n 0, 1) := by decide +kernel
theorem dX9_goesOn_241 : decode cX9_goesOn 241 = .ok (.dup, 1) := by decide +kernel
theorem dX9_goesOn_242 : decode cX9_goesOn 242 = .ok (.getfield 85, 3) := by decide +kernel
theorem dX9_goesOn_245 : decode cX9_goesOn 245 = .ok (.iconst 1, 1) := by decide +kernel
theorem dX9_goesOn_246 : decode cX9_goesOn 246 = .ok (.iadd, 1) := by decide +kernel
theorem dX9_goesOn_247 : decode cX9_goesOn 247 = .ok (.putfield 85, 3) := by decide +kernel
theorem dX9_goesOn_250 : decode cX9_goesOn 250 = .ok (.goto (-55), 3) := by decide +kernel
theorem dX9_goesOn_253 : decode cX9_goesOn 253 = .ok (.iload_n 2, 1) := by decide +kernel
theorem dX9_goesOn_254 : decode cX9_goesOn 254 = .ok (.iconst 3, 1) := by decide +kernel
theorem dX9_goesOn_255 : decode cX9_goesOn 255 = .ok (.if_icmp .gt 43, 3) := by decide +kernel
theorem dX9_goesOn_258 : decode cX9_goesOn 258 = .ok (.aload_n 0, 1) := by decide +kernel
theorem dX9_goesOn_259 : decode cX9_goesOn 259 = .ok (.iconst 3, 1) := by decide +kernel
theorem dX9_goesOn_260 : decode cX9_goesOn 260 = .ok (.putfield 82, 3) := by decide +kernel
theorem dX9_goesOn_263 : decode cX9_goesOn 263 = .ok (.goto 35, 3) := by decide +kernel
theorem dX9_goesOn_266 : decode cX9_goesOn 266 = .ok (.iload_n 1, 1) := by decide +kernel
theorem dX9_goesOn_267 : decode cX9_goesOn 267 = .ok (.bipush 59, 2) := by decide +kernel
theorem dX9_goesOn_269 : decode cX9_goesOn 269 = .ok (.if_icmp .eq 9, 3) := by decide +kernel
theorem dX9_goesOn_272 : decode cX9_goesOn 272 = .ok (.iload_n 1, 1) := by decide +kernel
theorem dX9_goesOn_273 : decode cX9_goesOn 273 = .ok (.bipush 44, 2) := by decide +kernel
theorem dX9_goesOn_275 : decode cX9_goesOn 275 = .ok (.if_icmp .ne 23, 3) := by decide +kernel
theorem dX9_goesOn_278 : decode cX9_goesOn 278 = .ok (.aload_n 0, 1) := by decide +kernel
theorem dX9_goesOn_279 : decode cX9_goesOn 279 = .ok (.iconst 4, 1) := by decide +kernel
theorem dX9_goesOn_280 : decode cX9_goesOn 280 = .ok (.putfield 82, 3) := by decide +kernel
theorem dX9_goesOn_283 : decode cX9_goesOn 283 = .ok (.aload_n 0, 1) := by decide +kernel
theorem dX9_goesOn_284 : decode cX9_goesOn 284 = .ok (.iload_n 1, 1) := by decide +kernel
theorem dX9_goesOn_285 : decode cX9_goesOn 285 = .ok (.putfield 94, 3) := by decide +kernel
theorem dX9_goesOn_288 : decode cX9_goesOn 288 = .ok (.aload_n 0, 1) := by decide +kernel
theorem dX9_goesOn_289 : decode cX9_goesOn 289 = .ok (.dup, 1) := by decide +kernel
theorem dX9_goesOn_290 : decode cX9_goesOn 290 = .ok (.getfield 85, 3) := by decide +kernel
theorem dX9_goesOn_293 : decode cX9_goesOn 293 = .ok (.iconst 1, 1) := by decide +kernel
theorem dX9_goesOn_294 : decode cX9_goesOn 294 = .ok (.iadd, 1) := by decide +kernel
theorem dX9_goesOn_295 : decode cX9_goesOn 295 = .ok (.putfield 85, 3) := by decide +kernel
theorem dX9_goesOn_298 : decode cX9_goesOn 298 = .ok (.return_, 1) := by decide +kernel
theorem dX9_flaw_0 : decode cX9_flaw 0 = .ok (.aload_n 0, 1) := by decide +kernel
theorem dX9_flaw_1 : decode cX9_flaw 1 = .ok (.getfield 82, 3) := by decide +kernel
theorem dX9_flaw_4 : decode cX9_flaw 4 = .ok (.iconst 5, 1) := by decide +kernel
theorem dX9_flaw_5 : decode cX9_flaw 5 = .ok (.if_icmp .ne 4, 3) := by decide +kernel
theorem dX9_flaw_8 : decode cX9_flaw 8 = .ok (.return_, 1) := by decide +kernel
theorem dX9_flaw_9 : decode cX9_flaw 9 = .ok (.aload_n 0, 1) := by decide +kernel
theorem dX9_flaw_10 : decode cX9_flaw 10 = .ok (.iload_n 1, 1) := by decide +kernel
theorem dX9_flaw_11 : decode cX9_flaw 11 = .ok (.putfield 114, 3) := by decide +kernel
theorem dX9_flaw_14 : decode cX9_flaw 14 = .ok (.aload_n 0, 1) := by decide +kernel
theorem dX9_flaw_15 : decode cX9_flaw 15 = .ok (.aload_n 0, 1) := by decide +kernel
