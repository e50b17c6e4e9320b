theorem p208_0 (lv : jmL) (st : List jmV) (w : jmW) : rn 208 (0, lv, st, w) = jq_ldi 208 1 lv st w (jg lv 1) := q_iload_n (jd_of jb_208 dX8_isOpen_0) rfl
theorem p208_1 (lv : jmL) (st : List jmV) (w : jmW) : rn 208 (1, lv, st, w) = rn 208 (2, lv, .inl (-1) :: st, w) := q_iconst (jd_of jb_208 dX8_isOpen_1)
theorem p208_2 (lv : jmL) (st : List jmV) (w : jmW) (x y : Int) : rn 208 (2, lv, .inl y :: .inl x :: st, w) = if jw x = jw y then rn 208 (19, lv, st, w) else rn 208 (5, lv, st, w) := q_icmp_eq (jd_of jb_208 dX8_isOpen_2) (by decide)
theorem p208_5 (lv : jmL) (st : List jmV) (w : jmW) : rn 208 (5, lv, st, w) = jq_lda 208 6 lv st w (jg lv 0) := q_aload_n (jd_of jb_208 dX8_isOpen_5) rfl
theorem p208_6 (lv : jmL) (st : List jmV) (w : jmW) (a : Nat) : rn 208 (6, lv, jvr a :: st, w) = jq_gs (mS w a) (1, 8, 0) 208 9 lv (.inr (.inr (mR w a 17)) :: st) (w) := q_getf (v := fun w a => .inr (.inr (mR w a 17))) (jd_of jb_208 dX8_isOpen_6) jo_208 jk_8_24 (fun _ _ => rfl)
theorem p208_9 (lv : jmL) (st : List jmV) (w : jmW) : rn 208 (9, lv, st, w) = jq_ldi 208 10 lv st w (jg lv 1) := q_iload_n (jd_of jb_208 dX8_isOpen_9) rfl
theorem p208_10 (lv : jmL) (st : List jmV) (w : jmW) (a : Nat) (j : Int) : rn 208 (10, lv, .inl j :: jvr a :: st, w) = jq_gr (mS w a) 0 j 208 11 lv (.inl (mI w a (jix j)) :: st) (w) := q_iald (jd_of jb_208 dX8_isOpen_10)
theorem p208_11 (lv : jmL) (st : List jmV) (w : jmW) : rn 208 (11, lv, st, w) = rn 208 (12, lv, .inl (2) :: st, w) := q_iconst (jd_of jb_208 dX8_isOpen_11)
theorem p208_12 (lv : jmL) (st : List jmV) (w : jmW) (x y : Int) : rn 208 (12, lv, .inl y :: .inl x :: st, w) = if jw x < jw y then rn 208 (15, lv, st, w) else rn 208 (19, lv, st, w) := q_icmp_ge (jd_of jb_208 dX8_isOpen_12) (by decide)
theorem p208_15 (lv : jmL) (st : List jmV) (w : jmW) : rn 208 (15, lv, st, w) = rn 208 (16, lv, .inl (1) :: st, w) := q_iconst (jd_of jb_208 dX8_isOpen_15)
theorem p208_16 (lv : jmL) (st : List jmV) (w : jmW) : rn 208 (16, lv, st, w) = rn 208 (20, lv, st, w) := q_goto (jd_of jb_208 dX8_isOpen_16) (by decide)
theorem p208_19 (lv : jmL) (st : List jmV) (w : jmW) : rn 208 (19, lv, st, w) = rn 208 (20, lv, .inl (0) :: st, w) := q_iconst (jd_of jb_208 dX8_isOpen_19)
theorem p208_20 (lv : jmL) (w : jmW) (x : Int) : rn 208 (20, lv, [.inl x], w) = jq_b (decide (x = 0 ∨ x = 1)) (some (some (.inl x), w)) := q_zreturn (jd_of jb_208 dX8_isOpen_20) jr_208
theorem p209_0 (lv : jmL) (st : List jmV) (w : jmW) : rn 209 (0, lv, st, w) = jq_ldi 209 1 lv st w (jg lv 1) := q_iload_n (jd_of jb_209 dX8_to_0) rfl
theorem p209_1 (lv : jmL) (st : List jmV) (w : jmW) : rn 209 (1, lv, st, w) = jq_lda 209 2 lv st w (jg lv 0) := q_aload_n (jd_of jb_209 dX8_to_1) rfl
theorem p209_2 (lv : jmL) (st : List jmV) (w : jmW) (a : Nat) : rn 209 (2, lv, jvr a :: st, w) = jq_gs (mS w a) (1, 8, 0) 209 5 lv (.inl (mI w a 0) :: st) (w) := q_getf (v := fun w a => .inl (mI w a 0)) (jd_of jb_209 dX8_to_2) jo_209 jk_8_74 (fun _ _ => rfl)
theorem p209_5 (lv : jmL) (st : List jmV) (w : jmW) (x y : Int) : rn 209 (5, lv, .inl y :: .inl x :: st, w) = if jw y = 0 then none else rn 209 (6, lv, .inl ((jw x).tmod (jw y)) :: st, w) := q_irem (jd_of jb_209 dX8_to_5)
theorem p209_6 (lv : jmL) (st : List jmV) (w : jmW) (x : Int) : rn 209 (6, lv, .inl x :: st, w) = rn 209 (7, js lv 3 (.inl x), st, w) := q_istore_n (jd_of jb_209 dX8_to_6) rfl (by rw [jm_209]; decide)
theorem p209_7 (lv : jmL) (st : List jmV) (w : jmW) : rn 209 (7, lv, st, w) = jq_ldi 209 8 lv st w (jg lv 2) := q_iload_n (jd_of jb_209 dX8_to_7) rfl
theorem p209_8 (lv : jmL) (st : List jmV) (w : jmW) : rn 209 (8, lv, st, w) = rn 209 (9, lv, .inl (3) :: st, w) := q_iconst (jd_of jb_209 dX8_to_8)
theorem p209_9 (lv : jmL) (st : List jmV) (w : jmW) (x y : Int) : rn 209 (9, lv, .inl y :: .inl x :: st, w) = rn 209 (10, lv, .inl (ji_and x y) :: st, w) := q_iand (jd_of jb_209 dX8_to_9)
theorem p209_10 (lv : jmL) (st : List jmV) (w : jmW) (x : Int) : rn 209 (10, lv, .inl x :: st, w) = if jw x = 0 then rn 209 (36, lv, st, w) else if jw x = 1 then rn 209 (55, lv, st, w) else if jw x = 2 then rn 209 (73, lv, st, w) else rn 209 (97, lv, st, w) := by
  by_cases h0 : jw x = 0
  · rw [if_pos h0]; exact q_table (jd_of jb_209 dX8_to_10) (by omega) (by omega) (off := 26) (by rw [h0]; rfl) (by decide)
  rw [if_neg h0]
  by_cases h1 : jw x = 1
  · rw [if_pos h1]; exact q_table (jd_of jb_209 dX8_to_10) (by omega) (by omega) (off := 45) (by rw [h1]; rfl) (by decide)
  rw [if_neg h1]
  by_cases h2 : jw x = 2
  · rw [if_pos h2]; exact q_table (jd_of jb_209 dX8_to_10) (by omega) (by omega) (off := 63) (by rw [h2]; rfl) (by decide)
  rw [if_neg h2]
  exact q_tabled (jd_of jb_209 dX8_to_10) (by omega) (by decide)
theorem p209_36 (lv : jmL) (st : List jmV) (w : jmW) : rn 209 (36, lv, st, w) = jq_ldi 209 37 lv st w (jg lv 1) := q_iload_n (jd_of jb_209 dX8_to_36) rfl
theorem p209_37 (lv : jmL) (st : List jmV) (w : jmW) : rn 209 (37, lv, st, w) = jq_lda 209 38 lv st w (jg lv 0) := q_aload_n (jd_of jb_209 dX8_to_37) rfl
theorem p209_38 (lv : jmL) (st : List jmV) (w : jmW) (a : Nat) : rn 209 (38, lv, jvr a :: st, w) = jq_gs (mS w a) (1, 8, 0) 209 41 lv (.inl (mI w a 0) :: st) (w) := q_getf (v := fun w a => .inl (mI w a 0)) (jd_of jb_209 dX8_to_38) jo_209 jk_8_74 (fun _ _ => rfl)
theorem p209_41 (lv : jmL) (st : List jmV) (w : jmW) (x y : Int) : rn 209 (41, lv, .inl y :: .inl x :: st, w) = if jw x < jw y then rn 209 (53, lv, st, w) else rn 209 (44, lv, st, w) := q_icmp_lt (jd_of jb_209 dX8_to_41) (by decide)
theorem p209_44 (lv : jmL) (st : List jmV) (w : jmW) : rn 209 (44, lv, st, w) = jq_ldi 209 45 lv st w (jg lv 1) := q_iload_n (jd_of jb_209 dX8_to_44) rfl
theorem p209_45 (lv : jmL) (st : List jmV) (w : jmW) : rn 209 (45, lv, st, w) = jq_lda 209 46 lv st w (jg lv 0) := q_aload_n (jd_of jb_209 dX8_to_45) rfl
theorem p209_46 (lv : jmL) (st : List jmV) (w : jmW) (a : Nat) : rn 209 (46, lv, jvr a :: st, w) = jq_gs (mS w a) (1, 8, 0) 209 49 lv (.inl (mI w a 0) :: st) (w) := q_getf (v := fun w a => .inl (mI w a 0)) (jd_of jb_209 dX8_to_46) jo_209 jk_8_74 (fun _ _ => rfl)
theorem p209_49 (lv : jmL) (st : List jmV) (w : jmW) (x y : Int) : rn 209 (49, lv, .inl y :: .inl x :: st, w) = rn 209 (50, lv, .inl (x - y) :: st, w) := q_isub (jd_of jb_209 dX8_to_49)
theorem p209_50 (lv : jmL) (st : List jmV) (w : jmW) : rn 209 (50, lv, st, w) = rn 209 (54, lv, st, w) := q_goto (jd_of jb_209 dX8_to_50) (by decide)
theorem p209_53 (lv : jmL) (st : List jmV) (w : jmW) : rn 209 (53, lv, st, w) = rn 209 (54, lv, .inl (-1) :: st, w) := q_iconst (jd_of jb_209 dX8_to_53)
theorem p209_54 (lv : jmL) (w : jmW) (x : Int) : rn 209 (54, lv, [.inl x], w) = some (some (.inl x), w) := q_ireturn (jd_of jb_209 dX8_to_54) jr_209
theorem p209_55 (lv : jmL) (st : List jmV) (w : jmW) : rn 209 (55, lv, st, w) = jq_ldi 209 56 lv st w (jg lv 3) := q_iload_n (jd_of jb_209 dX8_to_55) rfl
theorem p209_56 (lv : jmL) (st : List jmV) (w : jmW) : rn 209 (56, lv, st, w) = rn 209 (57, lv, .inl (1) :: st, w) := q_iconst (jd_of jb_209 dX8_to_56)
theorem p209_57 (lv : jmL) (st : List jmV) (w : jmW) (x y : Int) : rn 209 (57, lv, .inl y :: .inl x :: st, w) = rn 209 (58, lv, .inl (x + y) :: st, w) := q_iadd (jd_of jb_209 dX8_to_57)
theorem p209_58 (lv : jmL) (st : List jmV) (w : jmW) : rn 209 (58, lv, st, w) = jq_lda 209 59 lv st w (jg lv 0) := q_aload_n (jd_of jb_209 dX8_to_58) rfl
theorem p209_59 (lv : jmL) (st : List jmV) (w : jmW) (a : Nat) : rn 209 (59, lv, jvr a :: st, w) = jq_gs (mS w a) (1, 8, 0) 209 62 lv (.inl (mI w a 0) :: st) (w) := q_getf (v := fun w a => .inl (mI w a 0)) (jd_of jb_209 dX8_to_59) jo_209 jk_8_74 (fun _ _ => rfl)
theorem p209_62 (lv : jmL) (st : List jmV) (w : jmW) (x y : Int) : rn 209 (62, lv, .inl y :: .inl x :: st, w) = if jw x < jw y then rn 209 (65, lv, st, w) else rn 209 (71, lv, st, w) := q_icmp_ge (jd_of jb_209 dX8_to_62) (by decide)
theorem p209_65 (lv : jmL) (st : List jmV) (w : jmW) : rn 209 (65, lv, st, w) = jq_ldi 209 66 lv st w (jg lv 1) := q_iload_n (jd_of jb_209 dX8_to_65) rfl
theorem p209_66 (lv : jmL) (st : List jmV) (w : jmW) : rn 209 (66, lv, st, w) = rn 209 (67, lv, .inl (1) :: st, w) := q_iconst (jd_of jb_209 dX8_to_66)
theorem p209_67 (lv : jmL) (st : List jmV) (w : jmW) (x y : Int) : rn 209 (67, lv, .inl y :: .inl x :: st, w) = rn 209 (68, lv, .inl (x + y) :: st, w) := q_iadd (jd_of jb_209 dX8_to_67)
theorem p209_68 (lv : jmL) (st : List jmV) (w : jmW) : rn 209 (68, lv, st, w) = rn 209 (72, lv, st, w) := q_goto (jd_of jb_209 dX8_to_68) (by decide)
theorem p209_71 (lv : jmL) (st : List jmV) (w : jmW) : rn 209 (71, lv, st, w) = rn 209 (72, lv, .inl (-1) :: st, w) := q_iconst (jd_of jb_209 dX8_to_71)
theorem p209_72 (lv : jmL) (w : jmW) (x : Int) : rn 209 (72, lv, [.inl x], w) = some (some (.inl x), w) := q_ireturn (jd_of jb_209 dX8_to_72) jr_209
theorem p209_73 (lv : jmL) (st : List jmV) (w : jmW) : rn 209 (73, lv, st, w) = jq_ldi 209 74 lv st w (jg lv 1) := q_iload_n (jd_of jb_209 dX8_to_73) rfl
theorem p209_74 (lv : jmL) (st : List jmV) (w : jmW) : rn 209 (74, lv, st, w) = jq_lda 209 75 lv st w (jg lv 0) := q_aload_n (jd_of jb_209 dX8_to_74) rfl
theorem p209_75 (lv : jmL) (st : List jmV) (w : jmW) (a : Nat) : rn 209 (75, lv, jvr a :: st, w) = jq_gs (mS w a) (1, 8, 0) 209 78 lv (.inl (mI w a 0) :: st) (w) := q_getf (v := fun w a => .inl (mI w a 0)) (jd_of jb_209 dX8_to_75) jo_209 jk_8_74 (fun _ _ => rfl)
theorem p209_78 (lv : jmL) (st : List jmV) (w : jmW) (x y : Int) : rn 209 (78, lv, .inl y :: .inl x :: st, w) = rn 209 (79, lv, .inl (x + y) :: st, w) := q_iadd (jd_of jb_209 dX8_to_78)
theorem p209_79 (lv : jmL) (st : List jmV) (w : jmW) : rn 209 (79, lv, st, w) = jq_lda 209 80 lv st w (jg lv 0) := q_aload_n (jd_of jb_209 dX8_to_79) rfl
theorem p209_80 (lv : jmL) (st : List jmV) (w : jmW) (b : Nat) : rn 209 (80, lv, jvr b :: st, w) = jq_s (mS w b) (1, 8, 0) (jq_b (decide (jwd st ≤ 8)) (jq_c 209 83 lv st (rn 210 (0, [(0, jvr b)], [], w)))) := q_callv (as := []) (rest := st) (jd_of jb_209 dX8_to_80) jo_209 jk_8_80 rfl rfl rfl jo_210 jf_209_210 (Nat.le_of_ble_eq_true rfl)
theorem p209_83 (lv : jmL) (st : List jmV) (w : jmW) (x y : Int) : rn 209 (83, lv, .inl y :: .inl x :: st, w) = if jw x < jw y then rn 209 (86, lv, st, w) else rn 209 (95, lv, st, w) := q_icmp_ge (jd_of jb_209 dX8_to_83) (by decide)
theorem p209_86 (lv : jmL) (st : List jmV) (w : jmW) : rn 209 (86, lv, st, w) = jq_ldi 209 87 lv st w (jg lv 1) := q_iload_n (jd_of jb_209 dX8_to_86) rfl
theorem p209_87 (lv : jmL) (st : List jmV) (w : jmW) : rn 209 (87, lv, st, w) = jq_lda 209 88 lv st w (jg lv 0) := q_aload_n (jd_of jb_209 dX8_to_87) rfl
theorem p209_88 (lv : jmL) (st : List jmV) (w : jmW) (a : Nat) : rn 209 (88, lv, jvr a :: st, w) = jq_gs (mS w a) (1, 8, 0) 209 91 lv (.inl (mI w a 0) :: st) (w) := q_getf (v := fun w a => .inl (mI w a 0)) (jd_of jb_209 dX8_to_88) jo_209 jk_8_74 (fun _ _ => rfl)
theorem p209_91 (lv : jmL) (st : List jmV) (w : jmW) (x y : Int) : rn 209 (91, lv, .inl y :: .inl x :: st, w) = rn 209 (92, lv, .inl (x + y) :: st, w) := q_iadd (jd_of jb_209 dX8_to_91)
theorem p209_92 (lv : jmL) (st : List jmV) (w : jmW) : rn 209 (92, lv, st, w) = rn 209 (96, lv, st, w) := q_goto (jd_of jb_209 dX8_to_92) (by decide)
theorem p209_95 (lv : jmL) (st : List jmV) (w : jmW) : rn 209 (95, lv, st, w) = rn 209 (96, lv, .inl (-1) :: st, w) := q_iconst (jd_of jb_209 dX8_to_95)
theorem p209_96 (lv : jmL) (w : jmW) (x : Int) : rn 209 (96, lv, [.inl x], w) = some (some (.inl x), w) := q_ireturn (jd_of jb_209 dX8_to_96) jr_209
theorem p209_97 (lv : jmL) (st : List jmV) (w : jmW) : rn 209 (97, lv, st, w) = jq_ldi 209 98 lv st w (jg lv 3) := q_iload_n (jd_of jb_209 dX8_to_97) rfl
theorem p209_98 (lv : jmL) (st : List jmV) (w : jmW) (x : Int) : rn 209 (98, lv, .inl x :: st, w) = if 0 < jw x then rn 209 (101, lv, st, w) else rn 209 (107, lv, st, w) := q_if_le (jd_of jb_209 dX8_to_98) (by decide)
theorem p209_101 (lv : jmL) (st : List jmV) (w : jmW) : rn 209 (101, lv, st, w) = jq_ldi 209 102 lv st w (jg lv 1) := q_iload_n (jd_of jb_209 dX8_to_101) rfl
theorem p209_102 (lv : jmL) (st : List jmV) (w : jmW) : rn 209 (102, lv, st, w) = rn 209 (103, lv, .inl (1) :: st, w) := q_iconst (jd_of jb_209 dX8_to_102)
theorem p209_103 (lv : jmL) (st : List jmV) (w : jmW) (x y : Int) : rn 209 (103, lv, .inl y :: .inl x :: st, w) = rn 209 (104, lv, .inl (x - y) :: st, w) := q_isub (jd_of jb_209 dX8_to_103)
theorem p209_104 (lv : jmL) (st : List jmV) (w : jmW) : rn 209 (104, lv, st, w) = rn 209 (108, lv, st, w) := q_goto (jd_of jb_209 dX8_to_104) (by decide)
theorem p209_107 (lv : jmL) (st : List jmV) (w : jmW) : rn 209 (107, lv, st, w) = rn 209 (108, lv, .inl (-1) :: st, w) := q_iconst (jd_of jb_209 dX8_to_107)
theorem p209_108 (lv : jmL) (w : jmW) (x : Int) : rn 209 (108, lv, [.inl x], w) = some (some (.inl x), w) := q_ireturn (jd_of jb_209 dX8_to_108) jr_209
theorem p210_0 (lv : jmL) (st : List jmV) (w : jmW) : rn 210 (0, lv, st, w) = jq_lda 210 1 lv st w (jg lv 0) := q_aload_n (jd_of jb_210 dX8_cells_0) rfl
theorem p210_1 (lv : jmL) (st : List jmV) (w : jmW) (a : Nat) : rn 210 (1, lv, jvr a :: st, w) = jq_gs (mS w a) (1, 8, 0) 210 4 lv (.inl (mI w a 0) :: st) (w) := q_getf (v := fun w a => .inl (mI w a 0)) (jd_of jb_210 dX8_cells_1) jo_210 jk_8_74 (fun _ _ => rfl)
theorem p210_4 (lv : jmL) (st : List jmV) (w : jmW) : rn 210 (4, lv, st, w) = jq_lda 210 5 lv st w (jg lv 0) := q_aload_n (jd_of jb_210 dX8_cells_4) rfl
theorem p210_5 (lv : jmL) (st : List jmV) (w : jmW) (a : Nat) : rn 210 (5, lv, jvr a :: st, w) = jq_gs (mS w a) (1, 8, 0) 210 8 lv (.inl (mI w a 1) :: st) (w) := q_getf (v := fun w a => .inl (mI w a 1)) (jd_of jb_210 dX8_cells_5) jo_210 jk_8_77 (fun _ _ => rfl)
theorem p210_8 (lv : jmL) (st : List jmV) (w : jmW) (x y : Int) : rn 210 (8, lv, .inl y :: .inl x :: st, w) = rn 210 (9, lv, .inl (x * y) :: st, w) := q_imul (jd_of jb_210 dX8_cells_8)
theorem p210_9 (lv : jmL) (w : jmW) (x : Int) : rn 210 (9, lv, [.inl x], w) = some (some (.inl x), w) := q_ireturn (jd_of jb_210 dX8_cells_9) jr_210
theorem p211_0 (lv : jmL) (st : List jmV) (w : jmW) : rn 211 (0, lv, st, w) = jq_lda 211 1 lv st w (jg lv 0) := q_aload_n (jd_of jb_211 dX9_readFrame_0) rfl
theorem p211_1 (lv : jmL) (st : List jmV) (w : jmW) : rn 211 (1, lv, st, w) = rn 211 (2, lv, .inl (0) :: st, w) := q_iconst (jd_of jb_211 dX9_readFrame_1)
theorem p211_2 (lv : jmL) (st : List jmV) (w : jmW) : rn 211 (2, lv, st, w) = jq_lda 211 3 lv st w (jg lv 0) := q_aload_n (jd_of jb_211 dX9_readFrame_2) rfl
theorem p211_3 (lv : jmL) (st : List jmV) (w : jmW) (a : Nat) : rn 211 (3, lv, jvr a :: st, w) = jq_gs (mS w a) (1, 9, 0) 211 6 lv (.inr (.inr (mR w a 4)) :: st) (w) := q_getf (v := fun w a => .inr (.inr (mR w a 4))) (jd_of jb_211 dX9_readFrame_3) jo_211 jk_9_150 (fun _ _ => rfl)
theorem p211_6 (lv : jmL) (st : List jmV) (w : jmW) (a : Nat) : rn 211 (6, lv, jvr a :: st, w) = jq_gs (mS w a) (1, 8, 0) 211 9 lv (.inl (mI w a 8) :: st) (w) := q_getf (v := fun w a => .inl (mI w a 8)) (jd_of jb_211 dX9_readFrame_6) jo_211 jk_9_370 (fun _ _ => rfl)
theorem p211_9 (lv : jmL) (st : List jmV) (w : jmW) : rn 211 (9, lv, st, w) = rn 211 (11, lv, .inl (8) :: st, w) := q_bipush (jd_of jb_211 dX9_readFrame_9) (by decide +kernel)
theorem p211_11 (lv : jmL) (st : List jmV) (w : jmW) (x y : Int) : rn 211 (11, lv, .inl y :: .inl x :: st, w) = if jw x = jw y then rn 211 (14, lv, st, w) else rn 211 (18, lv, st, w) := q_icmp_ne (jd_of jb_211 dX9_readFrame_11) (by decide)
theorem p211_14 (lv : jmL) (st : List jmV) (w : jmW) : rn 211 (14, lv, st, w) = rn 211 (15, lv, .inl (1) :: st, w) := q_iconst (jd_of jb_211 dX9_readFrame_14)
theorem p211_15 (lv : jmL) (st : List jmV) (w : jmW) : rn 211 (15, lv, st, w) = rn 211 (19, lv, st, w) := q_goto (jd_of jb_211 dX9_readFrame_15) (by decide)
theorem p211_18 (lv : jmL) (st : List jmV) (w : jmW) : rn 211 (18, lv, st, w) = rn 211 (19, lv, .inl (0) :: st, w) := q_iconst (jd_of jb_211 dX9_readFrame_18)
theorem p211_19 (lv : jmL) (st : List jmV) (w : jmW) : rn 211 (19, lv, st, w) = rn 211 (20, lv, .inl (0) :: st, w) := q_iconst (jd_of jb_211 dX9_readFrame_19)
theorem p211_20 (lv : jmL) (st : List jmV) (w : jmW) (b : Nat) (x1 : Int) (x2 : Int) (x3 : Int) : rn 211 (20, lv, .inl x3 :: .inl x2 :: .inl x1 :: jvr b :: st, w) = jq_s (mS w b) (1, 9, 0) (jq_b (decide (jwd st ≤ 8)) (jq_c 211 23 lv st (rn 194 (0, [(0, jvr b), (1, .inl x1), (2, .inl x2), (3, .inl x3)], [], w)))) := q_callv (as := [.inl x1, .inl x2, .inl x3]) (rest := st) (jd_of jb_211 dX9_readFrame_20) jo_211 jk_9_271 rfl rfl rfl jo_194 jf_211_194 (Nat.le_of_ble_eq_true rfl)
theorem p211_23 (lv : jmL) (st : List jmV) (w : jmW) : rn 211 (23, lv, st, w) = jq_lda 211 24 lv st w (jg lv 0) := q_aload_n (jd_of jb_211 dX9_readFrame_23) rfl
theorem p211_24 (lv : jmL) (st : List jmV) (w : jmW) : rn 211 (24, lv, st, w) = rn 211 (25, lv, .inl (0) :: st, w) := q_iconst (jd_of jb_211 dX9_readFrame_24)
theorem p211_25 (lv : jmL) (st : List jmV) (w : jmW) : rn 211 (25, lv, st, w) = rn 211 (27, lv, .inl (40) :: st, w) := q_bipush (jd_of jb_211 dX9_readFrame_25) (by decide +kernel)
theorem p211_27 (lv : jmL) (st : List jmV) (w : jmW) (b : Nat) (x1 : Int) (x2 : Int) : rn 211 (27, lv, .inl x2 :: .inl x1 :: jvr b :: st, w) = jq_s (mS w b) (1, 9, 0) (jq_b (decide (jwd st ≤ 8)) (jq_c 211 30 lv st (rn 190 (0, [(0, jvr b), (1, .inl x1), (2, .inl x2)], [], w)))) := q_callv (as := [.inl x1, .inl x2]) (rest := st) (jd_of jb_211 dX9_readFrame_27) jo_211 jk_9_147 rfl rfl rfl jo_190 jf_211_190 (Nat.le_of_ble_eq_true rfl)
theorem p211_30 (lv : jmL) (st : List jmV) (w : jmW) (x : Int) : rn 211 (30, lv, .inl x :: st, w) = rn 211 (31, js lv 1 (.inl x), st, w) := q_istore_n (jd_of jb_211 dX9_readFrame_30) rfl (by rw [jm_211]; decide)
theorem p211_31 (lv : jmL) (st : List jmV) (w : jmW) : rn 211 (31, lv, st, w) = jq_lda 211 32 lv st w (jg lv 0) := q_aload_n (jd_of jb_211 dX9_readFrame_31) rfl
theorem p211_32 (lv : jmL) (st : List jmV) (w : jmW) : rn 211 (32, lv, st, w) = rn 211 (33, lv, .inl (0) :: st, w) := q_iconst (jd_of jb_211 dX9_readFrame_32)
theorem p211_33 (lv : jmL) (st : List jmV) (w : jmW) : rn 211 (33, lv, st, w) = jq_lda 211 34 lv st w (jg lv 0) := q_aload_n (jd_of jb_211 dX9_readFrame_33) rfl
theorem p211_34 (lv : jmL) (st : List jmV) (w : jmW) (a : Nat) : rn 211 (34, lv, jvr a :: st, w) = jq_gs (mS w a) (1, 9, 0) 211 37 lv (.inr (.inr (mR w a 4)) :: st) (w) := q_getf (v := fun w a => .inr (.inr (mR w a 4))) (jd_of jb_211 dX9_readFrame_34) jo_211 jk_9_150 (fun _ _ => rfl)
theorem p211_37 (lv : jmL) (st : List jmV) (w : jmW) (a : Nat) : rn 211 (37, lv, jvr a :: st, w) = jq_gs (mS w a) (1, 8, 0) 211 40 lv (.inl (mI w a 4) :: st) (w) := q_getf (v := fun w a => .inl (mI w a 4)) (jd_of jb_211 dX9_readFrame_37) jo_211 jk_9_351 (fun _ _ => rfl)
theorem p211_40 (lv : jmL) (st : List jmV) (w : jmW) : rn 211 (40, lv, st, w) = rn 211 (41, lv, .inl (1) :: st, w) := q_iconst (jd_of jb_211 dX9_readFrame_40)
theorem p211_41 (lv : jmL) (st : List jmV) (w : jmW) (x y : Int) : rn 211 (41, lv, .inl y :: .inl x :: st, w) = rn 211 (42, lv, .inl (x - y) :: st, w) := q_isub (jd_of jb_211 dX9_readFrame_41)
theorem p211_42 (lv : jmL) (st : List jmV) (w : jmW) (b : Nat) (x1 : Int) (x2 : Int) : rn 211 (42, lv, .inl x2 :: .inl x1 :: jvr b :: st, w) = jq_s (mS w b) (1, 9, 0) (jq_b (decide (jwd st ≤ 8)) (jq_c 211 45 lv st (rn 190 (0, [(0, jvr b), (1, .inl x1), (2, .inl x2)], [], w)))) := q_callv (as := [.inl x1, .inl x2]) (rest := st) (jd_of jb_211 dX9_readFrame_42) jo_211 jk_9_147 rfl rfl rfl jo_190 jf_211_190 (Nat.le_of_ble_eq_true rfl)
theorem p211_45 (lv : jmL) (st : List jmV) (w : jmW) (x : Int) : rn 211 (45, lv, .inl x :: st, w) = rn 211 (46, js lv 2 (.inl x), st, w) := q_istore_n (jd_of jb_211 dX9_readFrame_45) rfl (by rw [jm_211]; decide)
theorem p211_46 (lv : jmL) (st : List jmV) (w : jmW) : rn 211 (46, lv, st, w) = jq_lda 211 47 lv st w (jg lv 0) := q_aload_n (jd_of jb_211 dX9_readFrame_46) rfl
theorem p211_47 (lv : jmL) (st : List jmV) (w : jmW) : rn 211 (47, lv, st, w) = rn 211 (50, lv, jvr 12 :: st, w) := q_ldcw_s (jd_of jb_211 dX9_readFrame_47) jo_211 jk_9_322
theorem p211_50 (lv : jmL) (st : List jmV) (w : jmW) (b : Nat) (x1 : Option Nat) : rn 211 (50, lv, .inr (.inr x1) :: jvr b :: st, w) = jq_s (mS w b) (1, 9, 0) (jq_b (decide (jwd st ≤ 8)) (jq_c 211 53 lv st (rn 189 (0, [(0, jvr b), (1, .inr (.inr x1))], [], w)))) := q_callv (as := [.inr (.inr x1)]) (rest := st) (jd_of jb_211 dX9_readFrame_50) jo_211 jk_9_143 rfl rfl rfl jo_189 jf_211_189 (Nat.le_of_ble_eq_true rfl)
theorem p211_53 (lv : jmL) (st : List jmV) (w : jmW) : rn 211 (53, lv, st, w) = jq_lda 211 54 lv st w (jg lv 0) := q_aload_n (jd_of jb_211 dX9_readFrame_53) rfl
theorem p211_54 (lv : jmL) (st : List jmV) (w : jmW) (b : Nat) : rn 211 (54, lv, jvr b :: st, w) = jq_s (mS w b) (1, 9, 0) (jq_b (decide (jwd st ≤ 8)) (jq_c 211 57 lv st (rn 196 (0, [(0, jvr b)], [], w)))) := q_callv (as := []) (rest := st) (jd_of jb_211 dX9_readFrame_54) jo_211 jk_9_280 rfl rfl rfl jo_196 jf_211_196 (Nat.le_of_ble_eq_true rfl)
theorem p211_57 (lv : jmL) (st : List jmV) (w : jmW) (x : Int) : rn 211 (57, lv, .inl x :: st, w) = rn 211 (58, js lv 3 (.inl x), st, w) := q_istore_n (jd_of jb_211 dX9_readFrame_57) rfl (by rw [jm_211]; decide)
theorem p211_58 (lv : jmL) (st : List jmV) (w : jmW) : rn 211 (58, lv, st, w) = jq_lda 211 59 lv st w (jg lv 0) := q_aload_n (jd_of jb_211 dX9_readFrame_58) rfl
theorem p211_59 (lv : jmL) (st : List jmV) (w : jmW) (b : Nat) : rn 211 (59, lv, jvr b :: st, w) = jq_s (mS w b) (1, 9, 0) (jq_b (decide (jwd st ≤ 8)) (jq_c 211 62 lv st (rn 178 (0, [(0, jvr b)], [], w)))) := q_callv (as := []) (rest := st) (jd_of jb_211 dX9_readFrame_59) jo_211 jk_9_124 rfl rfl rfl jo_178 jf_211_178 (Nat.le_of_ble_eq_true rfl)
theorem p211_62 (lv : jmL) (st : List jmV) (w : jmW) : rn 211 (62, lv, st, w) = jq_lda 211 63 lv st w (jg lv 0) := q_aload_n (jd_of jb_211 dX9_readFrame_62) rfl
theorem p211_63 (lv : jmL) (st : List jmV) (w : jmW) (a : Nat) : rn 211 (63, lv, jvr a :: st, w) = jq_gs (mS w a) (1, 9, 0) 211 66 lv (.inl (mI w a 9) :: st) (w) := q_getf (v := fun w a => .inl (mI w a 9)) (jd_of jb_211 dX9_readFrame_63) jo_211 jk_9_82 (fun _ _ => rfl)
theorem p211_66 (lv : jmL) (st : List jmV) (w : jmW) : rn 211 (66, lv, st, w) = rn 211 (67, lv, .inl (5) :: st, w) := q_iconst (jd_of jb_211 dX9_readFrame_66)
theorem p211_67 (lv : jmL) (st : List jmV) (w : jmW) (x y : Int) : rn 211 (67, lv, .inl y :: .inl x :: st, w) = if jw x = jw y then rn 211 (70, lv, st, w) else rn 211 (71, lv, st, w) := q_icmp_ne (jd_of jb_211 dX9_readFrame_67) (by decide)
theorem p211_70 (lv : jmL) (w : jmW) : rn 211 (70, lv, [], w) = some (none, w) := q_return (jd_of jb_211 dX9_readFrame_70) jr_211
theorem p211_71 (lv : jmL) (st : List jmV) (w : jmW) : rn 211 (71, lv, st, w) = jq_lda 211 72 lv st w (jg lv 0) := q_aload_n (jd_of jb_211 dX9_readFrame_71) rfl
theorem p211_72 (lv : jmL) (st : List jmV) (w : jmW) (a : Nat) : rn 211 (72, lv, jvr a :: st, w) = jq_gs (mS w a) (1, 9, 0) 211 75 lv (.inr (.inr (mR w a 4)) :: st) (w) := q_getf (v := fun w a => .inr (.inr (mR w a 4))) (jd_of jb_211 dX9_readFrame_72) jo_211 jk_9_150 (fun _ _ => rfl)
theorem p211_75 (lv : jmL) (st : List jmV) (w : jmW) (a : Nat) : rn 211 (75, lv, jvr a :: st, w) = jq_gs (mS w a) (1, 8, 0) 211 78 lv (.inr (.inr (mR w a 29)) :: st) (w) := q_getf (v := fun w a => .inr (.inr (mR w a 29))) (jd_of jb_211 dX9_readFrame_75) jo_211 jk_9_373 (fun _ _ => rfl)
theorem p211_78 (lv : jmL) (st : List jmV) (w : jmW) : rn 211 (78, lv, st, w) = jq_lda 211 79 lv st w (jg lv 0) := q_aload_n (jd_of jb_211 dX9_readFrame_78) rfl
theorem p211_79 (lv : jmL) (st : List jmV) (w : jmW) (a : Nat) : rn 211 (79, lv, jvr a :: st, w) = jq_gs (mS w a) (1, 9, 0) 211 82 lv (.inr (.inr (mR w a 4)) :: st) (w) := q_getf (v := fun w a => .inr (.inr (mR w a 4))) (jd_of jb_211 dX9_readFrame_79) jo_211 jk_9_150 (fun _ _ => rfl)
theorem p211_82 (lv : jmL) (st : List jmV) (w : jmW) (a : Nat) : rn 211 (82, lv, jvr a :: st, w) = jq_gs (mS w a) (1, 8, 0) 211 85 lv (.inl (mI w a 8) :: st) (w) := q_getf (v := fun w a => .inl (mI w a 8)) (jd_of jb_211 dX9_readFrame_82) jo_211 jk_9_370 (fun _ _ => rfl)
theorem p211_85 (lv : jmL) (st : List jmV) (w : jmW) : rn 211 (85, lv, st, w) = jq_ldi 211 86 lv st w (jg lv 1) := q_iload_n (jd_of jb_211 dX9_readFrame_85) rfl
theorem p211_86 (lv : jmL) (st : List jmV) (w : jmW) (a : Nat) (j x : Int) : rn 211 (86, lv, .inl x :: .inl j :: jvr a :: st, w) = jq_gw (mS w a) 0 j 211 87 lv (st) (setI w a (jix j) x) := q_iast (jd_of jb_211 dX9_readFrame_86)
theorem p211_87 (lv : jmL) (st : List jmV) (w : jmW) : rn 211 (87, lv, st, w) = jq_lda 211 88 lv st w (jg lv 0) := q_aload_n (jd_of jb_211 dX9_readFrame_87) rfl
theorem p211_88 (lv : jmL) (st : List jmV) (w : jmW) (a : Nat) : rn 211 (88, lv, jvr a :: st, w) = jq_gs (mS w a) (1, 9, 0) 211 91 lv (.inr (.inr (mR w a 4)) :: st) (w) := q_getf (v := fun w a => .inr (.inr (mR w a 4))) (jd_of jb_211 dX9_readFrame_88) jo_211 jk_9_150 (fun _ _ => rfl)
theorem p211_91 (lv : jmL) (st : List jmV) (w : jmW) (a : Nat) : rn 211 (91, lv, jvr a :: st, w) = jq_gs (mS w a) (1, 8, 0) 211 94 lv (.inr (.inr (mR w a 30)) :: st) (w) := q_getf (v := fun w a => .inr (.inr (mR w a 30))) (jd_of jb_211 dX9_readFrame_91) jo_211 jk_9_376 (fun _ _ => rfl)
theorem p211_94 (lv : jmL) (st : List jmV) (w : jmW) : rn 211 (94, lv, st, w) = jq_lda 211 95 lv st w (jg lv 0) := q_aload_n (jd_of jb_211 dX9_readFrame_94) rfl
theorem p211_95 (lv : jmL) (st : List jmV) (w : jmW) (a : Nat) : rn 211 (95, lv, jvr a :: st, w) = jq_gs (mS w a) (1, 9, 0) 211 98 lv (.inr (.inr (mR w a 4)) :: st) (w) := q_getf (v := fun w a => .inr (.inr (mR w a 4))) (jd_of jb_211 dX9_readFrame_95) jo_211 jk_9_150 (fun _ _ => rfl)
theorem p211_98 (lv : jmL) (st : List jmV) (w : jmW) (a : Nat) : rn 211 (98, lv, jvr a :: st, w) = jq_gs (mS w a) (1, 8, 0) 211 101 lv (.inl (mI w a 8) :: st) (w) := q_getf (v := fun w a => .inl (mI w a 8)) (jd_of jb_211 dX9_readFrame_98) jo_211 jk_9_370 (fun _ _ => rfl)
theorem p211_101 (lv : jmL) (st : List jmV) (w : jmW) : rn 211 (101, lv, st, w) = jq_ldi 211 102 lv st w (jg lv 2) := q_iload_n (jd_of jb_211 dX9_readFrame_101) rfl
theorem p211_102 (lv : jmL) (st : List jmV) (w : jmW) (a : Nat) (j x : Int) : rn 211 (102, lv, .inl x :: .inl j :: jvr a :: st, w) = jq_gw (mS w a) 0 j 211 103 lv (st) (setI w a (jix j) x) := q_iast (jd_of jb_211 dX9_readFrame_102)
theorem p211_103 (lv : jmL) (st : List jmV) (w : jmW) : rn 211 (103, lv, st, w) = jq_lda 211 104 lv st w (jg lv 0) := q_aload_n (jd_of jb_211 dX9_readFrame_103) rfl
theorem p211_104 (lv : jmL) (st : List jmV) (w : jmW) (a : Nat) : rn 211 (104, lv, jvr a :: st, w) = jq_gs (mS w a) (1, 9, 0) 211 107 lv (.inr (.inr (mR w a 4)) :: st) (w) := q_getf (v := fun w a => .inr (.inr (mR w a 4))) (jd_of jb_211 dX9_readFrame_104) jo_211 jk_9_150 (fun _ _ => rfl)
theorem p211_107 (lv : jmL) (st : List jmV) (w : jmW) (a : Nat) : rn 211 (107, lv, jvr a :: st, w) = jq_gs (mS w a) (1, 8, 0) 211 110 lv (.inr (.inr (mR w a 31)) :: st) (w) := q_getf (v := fun w a => .inr (.inr (mR w a 31))) (jd_of jb_211 dX9_readFrame_107) jo_211 jk_9_379 (fun _ _ => rfl)
theorem p211_110 (lv : jmL) (st : List jmV) (w : jmW) : rn 211 (110, lv, st, w) = jq_lda 211 111 lv st w (jg lv 0) := q_aload_n (jd_of jb_211 dX9_readFrame_110) rfl
theorem p211_111 (lv : jmL) (st : List jmV) (w : jmW) (a : Nat) : rn 211 (111, lv, jvr a :: st, w) = jq_gs (mS w a) (1, 9, 0) 211 114 lv (.inr (.inr (mR w a 4)) :: st) (w) := q_getf (v := fun w a => .inr (.inr (mR w a 4))) (jd_of jb_211 dX9_readFrame_111) jo_211 jk_9_150 (fun _ _ => rfl)
theorem p211_114 (lv : jmL) (st : List jmV) (w : jmW) (a : Nat) : rn 211 (114, lv, jvr a :: st, w) = jq_gs (mS w a) (1, 8, 0) 211 117 lv (.inl (mI w a 8) :: st) (w) := q_getf (v := fun w a => .inl (mI w a 8)) (jd_of jb_211 dX9_readFrame_114) jo_211 jk_9_370 (fun _ _ => rfl)
theorem p211_117 (lv : jmL) (st : List jmV) (w : jmW) : rn 211 (117, lv, st, w) = jq_ldi 211 118 lv st w (jg lv 3) := q_iload_n (jd_of jb_211 dX9_readFrame_117) rfl
theorem p211_118 (lv : jmL) (st : List jmV) (w : jmW) (a : Nat) (j x : Int) : rn 211 (118, lv, .inl x :: .inl j :: jvr a :: st, w) = jq_gw (mS w a) 0 j 211 119 lv (st) (setI w a (jix j) x) := q_iast (jd_of jb_211 dX9_readFrame_118)
theorem p211_119 (lv : jmL) (st : List jmV) (w : jmW) : rn 211 (119, lv, st, w) = jq_lda 211 120 lv st w (jg lv 0) := q_aload_n (jd_of jb_211 dX9_readFrame_119) rfl
theorem p211_120 (lv : jmL) (st : List jmV) (w : jmW) (a : Nat) : rn 211 (120, lv, jvr a :: st, w) = jq_gs (mS w a) (1, 9, 0) 211 123 lv (.inr (.inr (mR w a 4)) :: st) (w) := q_getf (v := fun w a => .inr (.inr (mR w a 4))) (jd_of jb_211 dX9_readFrame_120) jo_211 jk_9_150 (fun _ _ => rfl)
theorem p211_123i (lv : jmL) (st : List jmV) (w : jmW) (x : Int) : rn 211 (123, lv, .inl x :: st, w) = rn 211 (124, lv, .inl x :: .inl x :: st, w) := q_dup_i (jd_of jb_211 dX9_readFrame_123)
theorem p211_123a (lv : jmL) (st : List jmV) (w : jmW) (x : Option Nat) : rn 211 (123, lv, .inr (.inr x) :: st, w) = rn 211 (124, lv, .inr (.inr x) :: .inr (.inr x) :: st, w) := q_dup_a (jd_of jb_211 dX9_readFrame_123)
theorem p211_124 (lv : jmL) (st : List jmV) (w : jmW) (a : Nat) : rn 211 (124, lv, jvr a :: st, w) = jq_gs (mS w a) (1, 8, 0) 211 127 lv (.inl (mI w a 8) :: st) (w) := q_getf (v := fun w a => .inl (mI w a 8)) (jd_of jb_211 dX9_readFrame_124) jo_211 jk_9_370 (fun _ _ => rfl)
theorem p211_127 (lv : jmL) (st : List jmV) (w : jmW) : rn 211 (127, lv, st, w) = rn 211 (128, lv, .inl (1) :: st, w) := q_iconst (jd_of jb_211 dX9_readFrame_127)
theorem p211_128 (lv : jmL) (st : List jmV) (w : jmW) (x y : Int) : rn 211 (128, lv, .inl y :: .inl x :: st, w) = rn 211 (129, lv, .inl (x + y) :: st, w) := q_iadd (jd_of jb_211 dX9_readFrame_128)
theorem p211_129 (lv : jmL) (st : List jmV) (w : jmW) (a : Nat) (x : Int) : rn 211 (129, lv, .inl x :: jvr a :: st, w) = jq_gs (mS w a) (1, 8, 0) 211 132 lv (st) (setI w a 8 x) := q_putf (jd_of jb_211 dX9_readFrame_129) jo_211 jk_9_370 (Or.inl rfl) rfl
theorem p211_132 (lv : jmL) (w : jmW) : rn 211 (132, lv, [], w) = some (none, w) := q_return (jd_of jb_211 dX9_readFrame_132) jr_211
theorem p212_0 (lv : jmL) (st : List jmV) (w : jmW) : rn 212 (0, lv, st, w) = rn 212 (1, lv, .inl (0) :: st, w) := q_iconst (jd_of jb_212 dX9_startsFrom_0)
theorem p212_1 (lv : jmL) (st : List jmV) (w : jmW) (x : Int) : rn 212 (1, lv, .inl x :: st, w) = rn 212 (2, js lv 2 (.inl x), st, w) := q_istore_n (jd_of jb_212 dX9_startsFrom_1) rfl (by rw [jm_212]; decide)
theorem p212_2 (lv : jmL) (st : List jmV) (w : jmW) : rn 212 (2, lv, st, w) = jq_ldi 212 3 lv st w (jg lv 2) := q_iload_n (jd_of jb_212 dX9_startsFrom_2) rfl
theorem p212_3 (lv : jmL) (st : List jmV) (w : jmW) : rn 212 (3, lv, st, w) = rn 212 (6, lv, .inl (298) :: st, w) := q_sipush (jd_of jb_212 dX9_startsFrom_3) (by decide +kernel)
theorem p212_6 (lv : jmL) (st : List jmV) (w : jmW) (x y : Int) : rn 212 (6, lv, .inl y :: .inl x :: st, w) = if jw x < jw y then rn 212 (9, lv, st, w) else rn 212 (19, lv, st, w) := q_icmp_ge (jd_of jb_212 dX9_startsFrom_6) (by decide)
theorem p212_9 (lv : jmL) (st : List jmV) (w : jmW) : rn 212 (9, lv, st, w) = jq_lda 212 10 lv st w (jg lv 1) := q_aload_n (jd_of jb_212 dX9_startsFrom_9) rfl
theorem p212_10 (lv : jmL) (st : List jmV) (w : jmW) : rn 212 (10, lv, st, w) = jq_ldi 212 11 lv st w (jg lv 2) := q_iload_n (jd_of jb_212 dX9_startsFrom_10) rfl
theorem p212_11 (lv : jmL) (st : List jmV) (w : jmW) : rn 212 (11, lv, st, w) = rn 212 (12, lv, .inl (0) :: st, w) := q_iconst (jd_of jb_212 dX9_startsFrom_11)
theorem p212_12 (lv : jmL) (st : List jmV) (w : jmW) (a : Nat) (j x : Int) : rn 212 (12, lv, .inl x :: .inl j :: jvr a :: st, w) = jq_gw (mS w a) 0 j 212 13 lv (st) (setI w a (jix j) x) := q_iast (jd_of jb_212 dX9_startsFrom_12)
theorem p212_13 (lv : jmL) (st : List jmV) (w : jmW) : rn 212 (13, lv, st, w) = jq_inc 212 16 lv 2 (1) st w (jg lv 2) := q_iinc (jd_of jb_212 dX9_startsFrom_13) (by rw [jm_212]; decide)
theorem p212_16 (lv : jmL) (st : List jmV) (w : jmW) : rn 212 (16, lv, st, w) = rn 212 (2, lv, st, w) := q_goto (jd_of jb_212 dX9_startsFrom_16) (by decide)
theorem p212_19 (lv : jmL) (st : List jmV) (w : jmW) : rn 212 (19, lv, st, w) = jq_lda 212 20 lv st w (jg lv 0) := q_aload_n (jd_of jb_212 dX9_startsFrom_19) rfl
theorem p212_20 (lv : jmL) (st : List jmV) (w : jmW) (a : Nat) : rn 212 (20, lv, jvr a :: st, w) = jq_gs (mS w a) (1, 9, 0) 212 23 lv (.inr (.inr (mR w a 3)) :: st) (w) := q_getf (v := fun w a => .inr (.inr (mR w a 3))) (jd_of jb_212 dX9_startsFrom_20) jo_212 jk_9_389 (fun _ _ => rfl)
theorem p212_23 (lv : jmL) (st : List jmV) (w : jmW) (a : Nat) : rn 212 (23, lv, jvr a :: st, w) = jq_gs (mS w a) (1, 8, 0) 212 26 lv (.inl (mI w a 13) :: st) (w) := q_getf (v := fun w a => .inl (mI w a 13)) (jd_of jb_212 dX9_startsFrom_23) jo_212 jk_9_212 (fun _ _ => rfl)
theorem p212_26 (lv : jmL) (st : List jmV) (w : jmW) (x : Int) : rn 212 (26, lv, .inl x :: st, w) = rn 212 (27, js lv 2 (.inl x), st, w) := q_istore_n (jd_of jb_212 dX9_startsFrom_26) rfl (by rw [jm_212]; decide)
theorem p212_27 (lv : jmL) (st : List jmV) (w : jmW) : rn 212 (27, lv, st, w) = rn 212 (28, lv, .inl (0) :: st, w) := q_iconst (jd_of jb_212 dX9_startsFrom_27)
theorem p212_28 (lv : jmL) (st : List jmV) (w : jmW) (x : Int) : rn 212 (28, lv, .inl x :: st, w) = rn 212 (29, js lv 3 (.inl x), st, w) := q_istore_n (jd_of jb_212 dX9_startsFrom_28) rfl (by rw [jm_212]; decide)
theorem p212_29 (lv : jmL) (st : List jmV) (w : jmW) : rn 212 (29, lv, st, w) = jq_ldi 212 30 lv st w (jg lv 3) := q_iload_n (jd_of jb_212 dX9_startsFrom_29) rfl
theorem p212_30 (lv : jmL) (st : List jmV) (w : jmW) : rn 212 (30, lv, st, w) = jq_lda 212 31 lv st w (jg lv 0) := q_aload_n (jd_of jb_212 dX9_startsFrom_30) rfl
theorem p212_31 (lv : jmL) (st : List jmV) (w : jmW) (a : Nat) : rn 212 (31, lv, jvr a :: st, w) = jq_gs (mS w a) (1, 9, 0) 212 34 lv (.inr (.inr (mR w a 3)) :: st) (w) := q_getf (v := fun w a => .inr (.inr (mR w a 3))) (jd_of jb_212 dX9_startsFrom_31) jo_212 jk_9_389 (fun _ _ => rfl)
theorem p212_34 (lv : jmL) (st : List jmV) (w : jmW) (a : Nat) : rn 212 (34, lv, jvr a :: st, w) = jq_gs (mS w a) (1, 8, 0) 212 37 lv (.inl (mI w a 4) :: st) (w) := q_getf (v := fun w a => .inl (mI w a 4)) (jd_of jb_212 dX9_startsFrom_34) jo_212 jk_9_351 (fun _ _ => rfl)
theorem p212_37 (lv : jmL) (st : List jmV) (w : jmW) (x y : Int) : rn 212 (37, lv, .inl y :: .inl x :: st, w) = if jw x < jw y then rn 212 (40, lv, st, w) else rn 212 (149, lv, st, w) := q_icmp_ge (jd_of jb_212 dX9_startsFrom_37) (by decide)
theorem p212_40 (lv : jmL) (st : List jmV) (w : jmW) : rn 212 (40, lv, st, w) = jq_lda 212 41 lv st w (jg lv 0) := q_aload_n (jd_of jb_212 dX9_startsFrom_40) rfl
theorem p212_41 (lv : jmL) (st : List jmV) (w : jmW) (a : Nat) : rn 212 (41, lv, jvr a :: st, w) = jq_gs (mS w a) (1, 9, 0) 212 44 lv (.inr (.inr (mR w a 3)) :: st) (w) := q_getf (v := fun w a => .inr (.inr (mR w a 3))) (jd_of jb_212 dX9_startsFrom_41) jo_212 jk_9_389 (fun _ _ => rfl)
theorem p212_44 (lv : jmL) (st : List jmV) (w : jmW) (a : Nat) : rn 212 (44, lv, jvr a :: st, w) = jq_gs (mS w a) (1, 8, 0) 212 47 lv (.inl (mI w a 4) :: st) (w) := q_getf (v := fun w a => .inl (mI w a 4)) (jd_of jb_212 dX9_startsFrom_44) jo_212 jk_9_351 (fun _ _ => rfl)
theorem p212_47 (lv : jmL) (st : List jmV) (w : jmW) : rn 212 (47, lv, st, w) = rn 212 (48, lv, .inl (1) :: st, w) := q_iconst (jd_of jb_212 dX9_startsFrom_47)
theorem p212_48 (lv : jmL) (st : List jmV) (w : jmW) (x y : Int) : rn 212 (48, lv, .inl y :: .inl x :: st, w) = rn 212 (49, lv, .inl (x - y) :: st, w) := q_isub (jd_of jb_212 dX9_startsFrom_48)
theorem p212_49 (lv : jmL) (st : List jmV) (w : jmW) : rn 212 (49, lv, st, w) = jq_ldi 212 50 lv st w (jg lv 3) := q_iload_n (jd_of jb_212 dX9_startsFrom_49) rfl
theorem p212_50 (lv : jmL) (st : List jmV) (w : jmW) (x y : Int) : rn 212 (50, lv, .inl y :: .inl x :: st, w) = rn 212 (51, lv, .inl (x - y) :: st, w) := q_isub (jd_of jb_212 dX9_startsFrom_50)
theorem p212_51 (lv : jmL) (st : List jmV) (w : jmW) (x : Int) : rn 212 (51, lv, .inl x :: st, w) = rn 212 (53, js lv 4 (.inl x), st, w) := q_istore (jd_of jb_212 dX9_startsFrom_51) (by rw [jm_212]; decide)
theorem p212_53 (lv : jmL) (st : List jmV) (w : jmW) : rn 212 (53, lv, st, w) = jq_lda 212 54 lv st w (jg lv 1) := q_aload_n (jd_of jb_212 dX9_startsFrom_53) rfl
theorem p212_54 (lv : jmL) (st : List jmV) (w : jmW) : rn 212 (54, lv, st, w) = rn 212 (55, lv, .inl (0) :: st, w) := q_iconst (jd_of jb_212 dX9_startsFrom_54)
theorem p212_55 (lv : jmL) (st : List jmV) (w : jmW) : rn 212 (55, lv, st, w) = jq_ldi 212 57 lv st w (jg lv 4) := q_iload (jd_of jb_212 dX9_startsFrom_55)
theorem p212_57 (lv : jmL) (st : List jmV) (w : jmW) (x y : Int) : rn 212 (57, lv, .inl y :: .inl x :: st, w) = rn 212 (58, lv, .inl (x + y) :: st, w) := q_iadd (jd_of jb_212 dX9_startsFrom_57)
theorem p212_58 (lv : jmL) (st : List jmV) (w : jmW) : rn 212 (58, lv, st, w) = jq_ldi 212 59 lv st w (jg lv 2) := q_iload_n (jd_of jb_212 dX9_startsFrom_58) rfl
theorem p212_59 (lv : jmL) (st : List jmV) (w : jmW) (a : Nat) (j x : Int) : rn 212 (59, lv, .inl x :: .inl j :: jvr a :: st, w) = jq_gw (mS w a) 0 j 212 60 lv (st) (setI w a (jix j) x) := q_iast (jd_of jb_212 dX9_startsFrom_59)
theorem p212_60 (lv : jmL) (st : List jmV) (w : jmW) : rn 212 (60, lv, st, w) = jq_lda 212 61 lv st w (jg lv 0) := q_aload_n (jd_of jb_212 dX9_startsFrom_60) rfl
theorem p212_61 (lv : jmL) (st : List jmV) (w : jmW) (a : Nat) : rn 212 (61, lv, jvr a :: st, w) = jq_gs (mS w a) (1, 9, 0) 212 64 lv (.inr (.inr (mR w a 3)) :: st) (w) := q_getf (v := fun w a => .inr (.inr (mR w a 3))) (jd_of jb_212 dX9_startsFrom_61) jo_212 jk_9_389 (fun _ _ => rfl)
theorem p212_64 (lv : jmL) (st : List jmV) (w : jmW) : rn 212 (64, lv, st, w) = jq_ldi 212 65 lv st w (jg lv 2) := q_iload_n (jd_of jb_212 dX9_startsFrom_64) rfl
theorem p212_65 (lv : jmL) (st : List jmV) (w : jmW) : rn 212 (65, lv, st, w) = jq_lda 212 66 lv st w (jg lv 0) := q_aload_n (jd_of jb_212 dX9_startsFrom_65) rfl
theorem p212_66 (lv : jmL) (st : List jmV) (w : jmW) (a : Nat) : rn 212 (66, lv, jvr a :: st, w) = jq_gs (mS w a) (1, 9, 0) 212 69 lv (.inr (.inr (mR w a 3)) :: st) (w) := q_getf (v := fun w a => .inr (.inr (mR w a 3))) (jd_of jb_212 dX9_startsFrom_66) jo_212 jk_9_389 (fun _ _ => rfl)
theorem p212_69 (lv : jmL) (st : List jmV) (w : jmW) (a : Nat) : rn 212 (69, lv, jvr a :: st, w) = jq_gs (mS w a) (1, 8, 0) 212 72 lv (.inl (mI w a 14) :: st) (w) := q_getf (v := fun w a => .inl (mI w a 14)) (jd_of jb_212 dX9_startsFrom_69) jo_212 jk_9_367 (fun _ _ => rfl)
theorem p212_72 (lv : jmL) (st : List jmV) (w : jmW) : rn 212 (72, lv, st, w) = rn 212 (73, lv, .inl (2) :: st, w) := q_iconst (jd_of jb_212 dX9_startsFrom_72)
theorem p212_73 (lv : jmL) (st : List jmV) (w : jmW) (x y : Int) : rn 212 (73, lv, .inl y :: .inl x :: st, w) = rn 212 (74, lv, .inl (x + y) :: st, w) := q_iadd (jd_of jb_212 dX9_startsFrom_73)
theorem p212_74 (lv : jmL) (st : List jmV) (w : jmW) (b : Nat) (x1 : Int) (x2 : Int) : rn 212 (74, lv, .inl x2 :: .inl x1 :: jvr b :: st, w) = jq_s (mS w b) (1, 8, 0) (jq_b (decide (jwd st ≤ 8)) (jq_c 212 77 lv st (rn 209 (0, [(0, jvr b), (1, .inl x1), (2, .inl x2)], [], w)))) := q_callv (as := [.inl x1, .inl x2]) (rest := st) (jd_of jb_212 dX9_startsFrom_74) jo_212 jk_9_364 rfl rfl rfl jo_209 jf_212_209 (Nat.le_of_ble_eq_true rfl)
theorem p212_77 (lv : jmL) (st : List jmV) (w : jmW) (x : Int) : rn 212 (77, lv, .inl x :: st, w) = rn 212 (78, js lv 2 (.inl x), st, w) := q_istore_n (jd_of jb_212 dX9_startsFrom_77) rfl (by rw [jm_212]; decide)
theorem p212_78 (lv : jmL) (st : List jmV) (w : jmW) : rn 212 (78, lv, st, w) = jq_lda 212 79 lv st w (jg lv 1) := q_aload_n (jd_of jb_212 dX9_startsFrom_78) rfl
theorem p212_79 (lv : jmL) (st : List jmV) (w : jmW) : rn 212 (79, lv, st, w) = rn 212 (82, lv, .inl (204) :: st, w) := q_sipush (jd_of jb_212 dX9_startsFrom_79) (by decide +kernel)
theorem p212_82 (lv : jmL) (st : List jmV) (w : jmW) : rn 212 (82, lv, st, w) = jq_ldi 212 83 lv st w (jg lv 3) := q_iload_n (jd_of jb_212 dX9_startsFrom_82) rfl
theorem p212_83 (lv : jmL) (st : List jmV) (w : jmW) (x y : Int) : rn 212 (83, lv, .inl y :: .inl x :: st, w) = rn 212 (84, lv, .inl (x + y) :: st, w) := q_iadd (jd_of jb_212 dX9_startsFrom_83)
theorem p212_84 (lv : jmL) (st : List jmV) (w : jmW) : rn 212 (84, lv, st, w) = jq_ldi 212 85 lv st w (jg lv 3) := q_iload_n (jd_of jb_212 dX9_startsFrom_84) rfl
theorem p212_85 (lv : jmL) (st : List jmV) (w : jmW) (a : Nat) (j x : Int) : rn 212 (85, lv, .inl x :: .inl j :: jvr a :: st, w) = jq_gw (mS w a) 0 j 212 86 lv (st) (setI w a (jix j) x) := q_iast (jd_of jb_212 dX9_startsFrom_85)
theorem p212_86 (lv : jmL) (st : List jmV) (w : jmW) : rn 212 (86, lv, st, w) = jq_lda 212 87 lv st w (jg lv 1) := q_aload_n (jd_of jb_212 dX9_startsFrom_86) rfl
theorem p212_87 (lv : jmL) (st : List jmV) (w : jmW) : rn 212 (87, lv, st, w) = rn 212 (90, lv, .inl (220) :: st, w) := q_sipush (jd_of jb_212 dX9_startsFrom_87) (by decide +kernel)
theorem p212_90 (lv : jmL) (st : List jmV) (w : jmW) : rn 212 (90, lv, st, w) = jq_ldi 212 91 lv st w (jg lv 3) := q_iload_n (jd_of jb_212 dX9_startsFrom_90) rfl
theorem p212_91 (lv : jmL) (st : List jmV) (w : jmW) (x y : Int) : rn 212 (91, lv, .inl y :: .inl x :: st, w) = rn 212 (92, lv, .inl (x + y) :: st, w) := q_iadd (jd_of jb_212 dX9_startsFrom_91)
theorem p212_92 (lv : jmL) (st : List jmV) (w : jmW) : rn 212 (92, lv, st, w) = jq_ldi 212 94 lv st w (jg lv 4) := q_iload (jd_of jb_212 dX9_startsFrom_92)
theorem p212_94 (lv : jmL) (st : List jmV) (w : jmW) (a : Nat) (j x : Int) : rn 212 (94, lv, .inl x :: .inl j :: jvr a :: st, w) = jq_gw (mS w a) 0 j 212 95 lv (st) (setI w a (jix j) x) := q_iast (jd_of jb_212 dX9_startsFrom_94)
theorem p212_95 (lv : jmL) (st : List jmV) (w : jmW) : rn 212 (95, lv, st, w) = jq_lda 212 96 lv st w (jg lv 1) := q_aload_n (jd_of jb_212 dX9_startsFrom_95) rfl
theorem p212_96 (lv : jmL) (st : List jmV) (w : jmW) : rn 212 (96, lv, st, w) = rn 212 (99, lv, .inl (236) :: st, w) := q_sipush (jd_of jb_212 dX9_startsFrom_96) (by decide +kernel)
theorem p212_99 (lv : jmL) (st : List jmV) (w : jmW) : rn 212 (99, lv, st, w) = jq_ldi 212 100 lv st w (jg lv 3) := q_iload_n (jd_of jb_212 dX9_startsFrom_99) rfl
theorem p212_100 (lv : jmL) (st : List jmV) (w : jmW) (x y : Int) : rn 212 (100, lv, .inl y :: .inl x :: st, w) = rn 212 (101, lv, .inl (x + y) :: st, w) := q_iadd (jd_of jb_212 dX9_startsFrom_100)
theorem p212_101 (lv : jmL) (st : List jmV) (w : jmW) : rn 212 (101, lv, st, w) = jq_lda 212 102 lv st w (jg lv 0) := q_aload_n (jd_of jb_212 dX9_startsFrom_101) rfl
theorem p212_102 (lv : jmL) (st : List jmV) (w : jmW) (a : Nat) : rn 212 (102, lv, jvr a :: st, w) = jq_gs (mS w a) (1, 9, 0) 212 105 lv (.inr (.inr (mR w a 3)) :: st) (w) := q_getf (v := fun w a => .inr (.inr (mR w a 3))) (jd_of jb_212 dX9_startsFrom_102) jo_212 jk_9_389 (fun _ _ => rfl)
theorem p212_105 (lv : jmL) (st : List jmV) (w : jmW) (a : Nat) : rn 212 (105, lv, jvr a :: st, w) = jq_gs (mS w a) (1, 8, 0) 212 108 lv (.inr (.inr (mR w a 24)) :: st) (w) := q_getf (v := fun w a => .inr (.inr (mR w a 24))) (jd_of jb_212 dX9_startsFrom_105) jo_212 jk_9_354 (fun _ _ => rfl)
theorem p212_108 (lv : jmL) (st : List jmV) (w : jmW) : rn 212 (108, lv, st, w) = jq_ldi 212 109 lv st w (jg lv 3) := q_iload_n (jd_of jb_212 dX9_startsFrom_108) rfl
theorem p212_109 (lv : jmL) (st : List jmV) (w : jmW) (a : Nat) (j : Int) : rn 212 (109, lv, .inl j :: jvr a :: st, w) = jq_gr (mS w a) 0 j 212 110 lv (.inl (mI w a (jix j)) :: st) (w) := q_iald (jd_of jb_212 dX9_startsFrom_109)
theorem p212_110 (lv : jmL) (st : List jmV) (w : jmW) (a : Nat) (j x : Int) : rn 212 (110, lv, .inl x :: .inl j :: jvr a :: st, w) = jq_gw (mS w a) 0 j 212 111 lv (st) (setI w a (jix j) x) := q_iast (jd_of jb_212 dX9_startsFrom_110)
theorem p212_111 (lv : jmL) (st : List jmV) (w : jmW) : rn 212 (111, lv, st, w) = jq_lda 212 112 lv st w (jg lv 1) := q_aload_n (jd_of jb_212 dX9_startsFrom_111) rfl
theorem p212_112 (lv : jmL) (st : List jmV) (w : jmW) : rn 212 (112, lv, st, w) = rn 212 (115, lv, .inl (252) :: st, w) := q_sipush (jd_of jb_212 dX9_startsFrom_112) (by decide +kernel)
theorem p212_115 (lv : jmL) (st : List jmV) (w : jmW) : rn 212 (115, lv, st, w) = jq_ldi 212 116 lv st w (jg lv 3) := q_iload_n (jd_of jb_212 dX9_startsFrom_115) rfl
theorem p212_116 (lv : jmL) (st : List jmV) (w : jmW) (x y : Int) : rn 212 (116, lv, .inl y :: .inl x :: st, w) = rn 212 (117, lv, .inl (x + y) :: st, w) := q_iadd (jd_of jb_212 dX9_startsFrom_116)
theorem p212_117 (lv : jmL) (st : List jmV) (w : jmW) : rn 212 (117, lv, st, w) = jq_lda 212 118 lv st w (jg lv 0) := q_aload_n (jd_of jb_212 dX9_startsFrom_117) rfl
theorem p212_118 (lv : jmL) (st : List jmV) (w : jmW) (a : Nat) : rn 212 (118, lv, jvr a :: st, w) = jq_gs (mS w a) (1, 9, 0) 212 121 lv (.inr (.inr (mR w a 3)) :: st) (w) := q_getf (v := fun w a => .inr (.inr (mR w a 3))) (jd_of jb_212 dX9_startsFrom_118) jo_212 jk_9_389 (fun _ _ => rfl)
theorem p212_121 (lv : jmL) (st : List jmV) (w : jmW) (a : Nat) : rn 212 (121, lv, jvr a :: st, w) = jq_gs (mS w a) (1, 8, 0) 212 124 lv (.inr (.inr (mR w a 25)) :: st) (w) := q_getf (v := fun w a => .inr (.inr (mR w a 25))) (jd_of jb_212 dX9_startsFrom_121) jo_212 jk_9_357 (fun _ _ => rfl)
theorem p212_124 (lv : jmL) (st : List jmV) (w : jmW) : rn 212 (124, lv, st, w) = jq_ldi 212 125 lv st w (jg lv 3) := q_iload_n (jd_of jb_212 dX9_startsFrom_124) rfl
theorem p212_125 (lv : jmL) (st : List jmV) (w : jmW) (a : Nat) (j : Int) : rn 212 (125, lv, .inl j :: jvr a :: st, w) = jq_gr (mS w a) 0 j 212 126 lv (.inl (mI w a (jix j)) :: st) (w) := q_iald (jd_of jb_212 dX9_startsFrom_125)
theorem p212_126 (lv : jmL) (st : List jmV) (w : jmW) (a : Nat) (j x : Int) : rn 212 (126, lv, .inl x :: .inl j :: jvr a :: st, w) = jq_gw (mS w a) 0 j 212 127 lv (st) (setI w a (jix j) x) := q_iast (jd_of jb_212 dX9_startsFrom_126)
theorem p212_127 (lv : jmL) (st : List jmV) (w : jmW) : rn 212 (127, lv, st, w) = jq_lda 212 128 lv st w (jg lv 1) := q_aload_n (jd_of jb_212 dX9_startsFrom_127) rfl
theorem p212_128 (lv : jmL) (st : List jmV) (w : jmW) : rn 212 (128, lv, st, w) = rn 212 (131, lv, .inl (268) :: st, w) := q_sipush (jd_of jb_212 dX9_startsFrom_128) (by decide +kernel)
theorem p212_131 (lv : jmL) (st : List jmV) (w : jmW) : rn 212 (131, lv, st, w) = jq_ldi 212 132 lv st w (jg lv 3) := q_iload_n (jd_of jb_212 dX9_startsFrom_131) rfl
theorem p212_132 (lv : jmL) (st : List jmV) (w : jmW) (x y : Int) : rn 212 (132, lv, .inl y :: .inl x :: st, w) = rn 212 (133, lv, .inl (x + y) :: st, w) := q_iadd (jd_of jb_212 dX9_startsFrom_132)
theorem p212_133 (lv : jmL) (st : List jmV) (w : jmW) : rn 212 (133, lv, st, w) = jq_lda 212 134 lv st w (jg lv 0) := q_aload_n (jd_of jb_212 dX9_startsFrom_133) rfl
theorem p212_134 (lv : jmL) (st : List jmV) (w : jmW) (a : Nat) : rn 212 (134, lv, jvr a :: st, w) = jq_gs (mS w a) (1, 9, 0) 212 137 lv (.inr (.inr (mR w a 3)) :: st) (w) := q_getf (v := fun w a => .inr (.inr (mR w a 3))) (jd_of jb_212 dX9_startsFrom_134) jo_212 jk_9_389 (fun _ _ => rfl)
theorem p212_137 (lv : jmL) (st : List jmV) (w : jmW) (a : Nat) : rn 212 (137, lv, jvr a :: st, w) = jq_gs (mS w a) (1, 8, 0) 212 140 lv (.inr (.inr (mR w a 26)) :: st) (w) := q_getf (v := fun w a => .inr (.inr (mR w a 26))) (jd_of jb_212 dX9_startsFrom_137) jo_212 jk_9_359 (fun _ _ => rfl)
theorem p212_140 (lv : jmL) (st : List jmV) (w : jmW) : rn 212 (140, lv, st, w) = jq_ldi 212 141 lv st w (jg lv 3) := q_iload_n (jd_of jb_212 dX9_startsFrom_140) rfl
theorem p212_141 (lv : jmL) (st : List jmV) (w : jmW) (a : Nat) (j : Int) : rn 212 (141, lv, .inl j :: jvr a :: st, w) = jq_gr (mS w a) 0 j 212 142 lv (.inl (mI w a (jix j)) :: st) (w) := q_iald (jd_of jb_212 dX9_startsFrom_141)
theorem p212_142 (lv : jmL) (st : List jmV) (w : jmW) (a : Nat) (j x : Int) : rn 212 (142, lv, .inl x :: .inl j :: jvr a :: st, w) = jq_gw (mS w a) 0 j 212 143 lv (st) (setI w a (jix j) x) := q_iast (jd_of jb_212 dX9_startsFrom_142)
theorem p212_143 (lv : jmL) (st : List jmV) (w : jmW) : rn 212 (143, lv, st, w) = jq_inc 212 146 lv 3 (1) st w (jg lv 3) := q_iinc (jd_of jb_212 dX9_startsFrom_143) (by rw [jm_212]; decide)
theorem p212_146 (lv : jmL) (st : List jmV) (w : jmW) : rn 212 (146, lv, st, w) = rn 212 (29, lv, st, w) := q_goto (jd_of jb_212 dX9_startsFrom_146) (by decide)
theorem p212_149 (lv : jmL) (st : List jmV) (w : jmW) : rn 212 (149, lv, st, w) = rn 212 (150, lv, .inl (0) :: st, w) := q_iconst (jd_of jb_212 dX9_startsFrom_149)
theorem p212_150 (lv : jmL) (st : List jmV) (w : jmW) (x : Int) : rn 212 (150, lv, .inl x :: st, w) = rn 212 (151, js lv 3 (.inl x), st, w) := q_istore_n (jd_of jb_212 dX9_startsFrom_150) rfl (by rw [jm_212]; decide)
theorem p212_151 (lv : jmL) (st : List jmV) (w : jmW) : rn 212 (151, lv, st, w) = jq_ldi 212 152 lv st w (jg lv 3) := q_iload_n (jd_of jb_212 dX9_startsFrom_151) rfl
theorem p212_152 (lv : jmL) (st : List jmV) (w : jmW) : rn 212 (152, lv, st, w) = jq_lda 212 153 lv st w (jg lv 0) := q_aload_n (jd_of jb_212 dX9_startsFrom_152) rfl
theorem p212_153 (lv : jmL) (st : List jmV) (w : jmW) (a : Nat) : rn 212 (153, lv, jvr a :: st, w) = jq_gs (mS w a) (1, 9, 0) 212 156 lv (.inr (.inr (mR w a 3)) :: st) (w) := q_getf (v := fun w a => .inr (.inr (mR w a 3))) (jd_of jb_212 dX9_startsFrom_153) jo_212 jk_9_389 (fun _ _ => rfl)
theorem p212_156 (lv : jmL) (st : List jmV) (w : jmW) (a : Nat) : rn 212 (156, lv, jvr a :: st, w) = jq_gs (mS w a) (1, 8, 0) 212 159 lv (.inl (mI w a 3) :: st) (w) := q_getf (v := fun w a => .inl (mI w a 3)) (jd_of jb_212 dX9_startsFrom_156) jo_212 jk_9_311 (fun _ _ => rfl)
theorem p212_159 (lv : jmL) (st : List jmV) (w : jmW) (x y : Int) : rn 212 (159, lv, .inl y :: .inl x :: st, w) = if jw x < jw y then rn 212 (162, lv, st, w) else rn 212 (184, lv, st, w) := q_icmp_ge (jd_of jb_212 dX9_startsFrom_159) (by decide)
theorem p212_162 (lv : jmL) (st : List jmV) (w : jmW) : rn 212 (162, lv, st, w) = jq_lda 212 163 lv st w (jg lv 1) := q_aload_n (jd_of jb_212 dX9_startsFrom_162) rfl
theorem p212_163 (lv : jmL) (st : List jmV) (w : jmW) : rn 212 (163, lv, st, w) = rn 212 (166, lv, .inl (284) :: st, w) := q_sipush (jd_of jb_212 dX9_startsFrom_163) (by decide +kernel)
theorem p212_166 (lv : jmL) (st : List jmV) (w : jmW) : rn 212 (166, lv, st, w) = jq_ldi 212 167 lv st w (jg lv 3) := q_iload_n (jd_of jb_212 dX9_startsFrom_166) rfl
theorem p212_167 (lv : jmL) (st : List jmV) (w : jmW) (x y : Int) : rn 212 (167, lv, .inl y :: .inl x :: st, w) = rn 212 (168, lv, .inl (x + y) :: st, w) := q_iadd (jd_of jb_212 dX9_startsFrom_167)
theorem p212_168 (lv : jmL) (st : List jmV) (w : jmW) : rn 212 (168, lv, st, w) = jq_lda 212 169 lv st w (jg lv 0) := q_aload_n (jd_of jb_212 dX9_startsFrom_168) rfl
theorem p212_169 (lv : jmL) (st : List jmV) (w : jmW) (a : Nat) : rn 212 (169, lv, jvr a :: st, w) = jq_gs (mS w a) (1, 9, 0) 212 172 lv (.inr (.inr (mR w a 3)) :: st) (w) := q_getf (v := fun w a => .inr (.inr (mR w a 3))) (jd_of jb_212 dX9_startsFrom_169) jo_212 jk_9_389 (fun _ _ => rfl)
theorem p212_172 (lv : jmL) (st : List jmV) (w : jmW) (a : Nat) : rn 212 (172, lv, jvr a :: st, w) = jq_gs (mS w a) (1, 8, 0) 212 175 lv (.inr (.inr (mR w a 19)) :: st) (w) := q_getf (v := fun w a => .inr (.inr (mR w a 19))) (jd_of jb_212 dX9_startsFrom_172) jo_212 jk_9_338 (fun _ _ => rfl)
theorem p212_175 (lv : jmL) (st : List jmV) (w : jmW) : rn 212 (175, lv, st, w) = jq_ldi 212 176 lv st w (jg lv 3) := q_iload_n (jd_of jb_212 dX9_startsFrom_175) rfl
theorem p212_176 (lv : jmL) (st : List jmV) (w : jmW) (a : Nat) (j : Int) : rn 212 (176, lv, .inl j :: jvr a :: st, w) = jq_gr (mS w a) 0 j 212 177 lv (.inl (mI w a (jix j)) :: st) (w) := q_iald (jd_of jb_212 dX9_startsFrom_176)
theorem p212_177 (lv : jmL) (st : List jmV) (w : jmW) (a : Nat) (j x : Int) : rn 212 (177, lv, .inl x :: .inl j :: jvr a :: st, w) = jq_gw (mS w a) 0 j 212 178 lv (st) (setI w a (jix j) x) := q_iast (jd_of jb_212 dX9_startsFrom_177)
theorem p212_178 (lv : jmL) (st : List jmV) (w : jmW) : rn 212 (178, lv, st, w) = jq_inc 212 181 lv 3 (1) st w (jg lv 3) := q_iinc (jd_of jb_212 dX9_startsFrom_178) (by rw [jm_212]; decide)
theorem p212_181 (lv : jmL) (st : List jmV) (w : jmW) : rn 212 (181, lv, st, w) = rn 212 (151, lv, st, w) := q_goto (jd_of jb_212 dX9_startsFrom_181) (by decide)
theorem p212_184 (lv : jmL) (st : List jmV) (w : jmW) : rn 212 (184, lv, st, w) = jq_lda 212 185 lv st w (jg lv 1) := q_aload_n (jd_of jb_212 dX9_startsFrom_184) rfl
theorem p212_185 (lv : jmL) (st : List jmV) (w : jmW) : rn 212 (185, lv, st, w) = rn 212 (188, lv, .inl (288) :: st, w) := q_sipush (jd_of jb_212 dX9_startsFrom_185) (by decide +kernel)
theorem p212_188 (lv : jmL) (st : List jmV) (w : jmW) : rn 212 (188, lv, st, w) = jq_lda 212 189 lv st w (jg lv 0) := q_aload_n (jd_of jb_212 dX9_startsFrom_188) rfl
theorem p212_189 (lv : jmL) (st : List jmV) (w : jmW) (a : Nat) : rn 212 (189, lv, jvr a :: st, w) = jq_gs (mS w a) (1, 9, 0) 212 192 lv (.inr (.inr (mR w a 3)) :: st) (w) := q_getf (v := fun w a => .inr (.inr (mR w a 3))) (jd_of jb_212 dX9_startsFrom_189) jo_212 jk_9_389 (fun _ _ => rfl)
theorem p212_192 (lv : jmL) (st : List jmV) (w : jmW) (a : Nat) : rn 212 (192, lv, jvr a :: st, w) = jq_gs (mS w a) (1, 8, 0) 212 195 lv (.inl (mI w a 4) :: st) (w) := q_getf (v := fun w a => .inl (mI w a 4)) (jd_of jb_212 dX9_startsFrom_192) jo_212 jk_9_351 (fun _ _ => rfl)
theorem p212_195 (lv : jmL) (st : List jmV) (w : jmW) (a : Nat) (j x : Int) : rn 212 (195, lv, .inl x :: .inl j :: jvr a :: st, w) = jq_gw (mS w a) 0 j 212 196 lv (st) (setI w a (jix j) x) := q_iast (jd_of jb_212 dX9_startsFrom_195)
theorem p212_196 (lv : jmL) (st : List jmV) (w : jmW) : rn 212 (196, lv, st, w) = jq_lda 212 197 lv st w (jg lv 1) := q_aload_n (jd_of jb_212 dX9_startsFrom_196) rfl
theorem p212_197 (lv : jmL) (st : List jmV) (w : jmW) : rn 212 (197, lv, st, w) = rn 212 (200, lv, .inl (289) :: st, w) := q_sipush (jd_of jb_212 dX9_startsFrom_197) (by decide +kernel)
theorem p212_200 (lv : jmL) (st : List jmV) (w : jmW) : rn 212 (200, lv, st, w) = jq_lda 212 201 lv st w (jg lv 0) := q_aload_n (jd_of jb_212 dX9_startsFrom_200) rfl
theorem p212_201 (lv : jmL) (st : List jmV) (w : jmW) (a : Nat) : rn 212 (201, lv, jvr a :: st, w) = jq_gs (mS w a) (1, 9, 0) 212 204 lv (.inr (.inr (mR w a 3)) :: st) (w) := q_getf (v := fun w a => .inr (.inr (mR w a 3))) (jd_of jb_212 dX9_startsFrom_201) jo_212 jk_9_389 (fun _ _ => rfl)
theorem p212_204 (lv : jmL) (st : List jmV) (w : jmW) (a : Nat) : rn 212 (204, lv, jvr a :: st, w) = jq_gs (mS w a) (1, 8, 0) 212 207 lv (.inl (mI w a 4) :: st) (w) := q_getf (v := fun w a => .inl (mI w a 4)) (jd_of jb_212 dX9_startsFrom_204) jo_212 jk_9_351 (fun _ _ => rfl)
theorem p212_207 (lv : jmL) (st : List jmV) (w : jmW) (a : Nat) (j x : Int) : rn 212 (207, lv, .inl x :: .inl j :: jvr a :: st, w) = jq_gw (mS w a) 0 j 212 208 lv (st) (setI w a (jix j) x) := q_iast (jd_of jb_212 dX9_startsFrom_207)
theorem p212_208 (lv : jmL) (st : List jmV) (w : jmW) : rn 212 (208, lv, st, w) = jq_lda 212 209 lv st w (jg lv 1) := q_aload_n (jd_of jb_212 dX9_startsFrom_208) rfl
theorem p212_209 (lv : jmL) (st : List jmV) (w : jmW) : rn 212 (209, lv, st, w) = rn 212 (212, lv, .inl (290) :: st, w) := q_sipush (jd_of jb_212 dX9_startsFrom_209) (by decide +kernel)
theorem p212_212 (lv : jmL) (st : List jmV) (w : jmW) : rn 212 (212, lv, st, w) = jq_lda 212 213 lv st w (jg lv 0) := q_aload_n (jd_of jb_212 dX9_startsFrom_212) rfl
theorem p212_213 (lv : jmL) (st : List jmV) (w : jmW) (a : Nat) : rn 212 (213, lv, jvr a :: st, w) = jq_gs (mS w a) (1, 9, 0) 212 216 lv (.inr (.inr (mR w a 3)) :: st) (w) := q_getf (v := fun w a => .inr (.inr (mR w a 3))) (jd_of jb_212 dX9_startsFrom_213) jo_212 jk_9_389 (fun _ _ => rfl)
theorem p212_216 (lv : jmL) (st : List jmV) (w : jmW) (a : Nat) : rn 212 (216, lv, jvr a :: st, w) = jq_gs (mS w a) (1, 8, 0) 212 219 lv (.inl (mI w a 4) :: st) (w) := q_getf (v := fun w a => .inl (mI w a 4)) (jd_of jb_212 dX9_startsFrom_216) jo_212 jk_9_351 (fun _ _ => rfl)
theorem p212_219 (lv : jmL) (st : List jmV) (w : jmW) (a : Nat) (j x : Int) : rn 212 (219, lv, .inl x :: .inl j :: jvr a :: st, w) = jq_gw (mS w a) 0 j 212 220 lv (st) (setI w a (jix j) x) := q_iast (jd_of jb_212 dX9_startsFrom_219)
theorem p212_220 (lv : jmL) (st : List jmV) (w : jmW) : rn 212 (220, lv, st, w) = jq_lda 212 221 lv st w (jg lv 1) := q_aload_n (jd_of jb_212 dX9_startsFrom_220) rfl
theorem p212_221 (lv : jmL) (st : List jmV) (w : jmW) : rn 212 (221, lv, st, w) = rn 212 (224, lv, .inl (291) :: st, w) := q_sipush (jd_of jb_212 dX9_startsFrom_221) (by decide +kernel)
theorem p212_224 (lv : jmL) (st : List jmV) (w : jmW) : rn 212 (224, lv, st, w) = jq_lda 212 225 lv st w (jg lv 0) := q_aload_n (jd_of jb_212 dX9_startsFrom_224) rfl
theorem p212_225 (lv : jmL) (st : List jmV) (w : jmW) (a : Nat) : rn 212 (225, lv, jvr a :: st, w) = jq_gs (mS w a) (1, 9, 0) 212 228 lv (.inr (.inr (mR w a 3)) :: st) (w) := q_getf (v := fun w a => .inr (.inr (mR w a 3))) (jd_of jb_212 dX9_startsFrom_225) jo_212 jk_9_389 (fun _ _ => rfl)
theorem p212_228 (lv : jmL) (st : List jmV) (w : jmW) (a : Nat) : rn 212 (228, lv, jvr a :: st, w) = jq_gs (mS w a) (1, 8, 0) 212 231 lv (.inl (mI w a 7) :: st) (w) := q_getf (v := fun w a => .inl (mI w a 7)) (jd_of jb_212 dX9_startsFrom_228) jo_212 jk_9_209 (fun _ _ => rfl)
theorem p212_231 (lv : jmL) (st : List jmV) (w : jmW) (a : Nat) (j x : Int) : rn 212 (231, lv, .inl x :: .inl j :: jvr a :: st, w) = jq_gw (mS w a) 0 j 212 232 lv (st) (setI w a (jix j) x) := q_iast (jd_of jb_212 dX9_startsFrom_231)
theorem p212_232 (lv : jmL) (st : List jmV) (w : jmW) : rn 212 (232, lv, st, w) = jq_lda 212 233 lv st w (jg lv 1) := q_aload_n (jd_of jb_212 dX9_startsFrom_232) rfl
theorem p212_233 (lv : jmL) (st : List jmV) (w : jmW) : rn 212 (233, lv, st, w) = rn 212 (236, lv, .inl (292) :: st, w) := q_sipush (jd_of jb_212 dX9_startsFrom_233) (by decide +kernel)
theorem p212_236 (lv : jmL) (st : List jmV) (w : jmW) : rn 212 (236, lv, st, w) = jq_lda 212 237 lv st w (jg lv 0) := q_aload_n (jd_of jb_212 dX9_startsFrom_236) rfl
theorem p212_237 (lv : jmL) (st : List jmV) (w : jmW) (a : Nat) : rn 212 (237, lv, jvr a :: st, w) = jq_gs (mS w a) (1, 9, 0) 212 240 lv (.inr (.inr (mR w a 3)) :: st) (w) := q_getf (v := fun w a => .inr (.inr (mR w a 3))) (jd_of jb_212 dX9_startsFrom_237) jo_212 jk_9_389 (fun _ _ => rfl)
theorem p212_240 (lv : jmL) (st : List jmV) (w : jmW) (a : Nat) : rn 212 (240, lv, jvr a :: st, w) = jq_gs (mS w a) (1, 8, 0) 212 243 lv (.inl (mI w a 14) :: st) (w) := q_getf (v := fun w a => .inl (mI w a 14)) (jd_of jb_212 dX9_startsFrom_240) jo_212 jk_9_367 (fun _ _ => rfl)
theorem p212_243 (lv : jmL) (st : List jmV) (w : jmW) (a : Nat) (j x : Int) : rn 212 (243, lv, .inl x :: .inl j :: jvr a :: st, w) = jq_gw (mS w a) 0 j 212 244 lv (st) (setI w a (jix j) x) := q_iast (jd_of jb_212 dX9_startsFrom_243)
theorem p212_244 (lv : jmL) (st : List jmV) (w : jmW) : rn 212 (244, lv, st, w) = jq_lda 212 245 lv st w (jg lv 1) := q_aload_n (jd_of jb_212 dX9_startsFrom_244) rfl
theorem p212_245 (lv : jmL) (st : List jmV) (w : jmW) : rn 212 (245, lv, st, w) = rn 212 (248, lv, .inl (296) :: st, w) := q_sipush (jd_of jb_212 dX9_startsFrom_245) (by decide +kernel)
theorem p212_248 (lv : jmL) (st : List jmV) (w : jmW) : rn 212 (248, lv, st, w) = jq_lda 212 249 lv st w (jg lv 0) := q_aload_n (jd_of jb_212 dX9_startsFrom_248) rfl
theorem p212_249 (lv : jmL) (st : List jmV) (w : jmW) (a : Nat) : rn 212 (249, lv, jvr a :: st, w) = jq_gs (mS w a) (1, 9, 0) 212 252 lv (.inr (.inr (mR w a 3)) :: st) (w) := q_getf (v := fun w a => .inr (.inr (mR w a 3))) (jd_of jb_212 dX9_startsFrom_249) jo_212 jk_9_389 (fun _ _ => rfl)
theorem p212_252 (lv : jmL) (st : List jmV) (w : jmW) (a : Nat) : rn 212 (252, lv, jvr a :: st, w) = jq_gs (mS w a) (1, 8, 0) 212 255 lv (.inl (mI w a 10) :: st) (w) := q_getf (v := fun w a => .inl (mI w a 10)) (jd_of jb_212 dX9_startsFrom_252) jo_212 jk_9_278 (fun _ _ => rfl)
theorem p212_255 (lv : jmL) (st : List jmV) (w : jmW) (a : Nat) (j x : Int) : rn 212 (255, lv, .inl x :: .inl j :: jvr a :: st, w) = jq_gw (mS w a) 0 j 212 256 lv (st) (setI w a (jix j) x) := q_iast (jd_of jb_212 dX9_startsFrom_255)
theorem p212_256 (lv : jmL) (w : jmW) : rn 212 (256, lv, [], w) = some (none, w) := q_return (jd_of jb_212 dX9_startsFrom_256) jr_212
theorem p213_0 (lv : jmL) (st : List jmV) (w : jmW) : rn 213 (0, lv, st, w) = jq_lda 213 1 lv st w (jg lv 0) := q_aload_n (jd_of jb_213 dX9_good_0) rfl
theorem p213_1 (lv : jmL) (st : List jmV) (w : jmW) : rn 213 (1, lv, st, w) = rn 213 (2, lv, .inl (0) :: st, w) := q_iconst (jd_of jb_213 dX9_good_1)
theorem p213_2 (lv : jmL) (st : List jmV) (w : jmW) (a : Nat) (x : Int) : rn 213 (2, lv, .inl x :: jvr a :: st, w) = jq_gs (mS w a) (1, 9, 0) 213 5 lv (st) (setI w a 1 x) := q_putf (jd_of jb_213 dX9_good_2) jo_213 jk_9_57 (Or.inl rfl) rfl
theorem p213_5 (lv : jmL) (st : List jmV) (w : jmW) : rn 213 (5, lv, st, w) = jq_lda 213 6 lv st w (jg lv 0) := q_aload_n (jd_of jb_213 dX9_good_5) rfl
theorem p213_6 (lv : jmL) (st : List jmV) (w : jmW) : rn 213 (6, lv, st, w) = rn 213 (7, lv, .inl (-1) :: st, w) := q_iconst (jd_of jb_213 dX9_good_6)
theorem p213_7 (lv : jmL) (st : List jmV) (w : jmW) (a : Nat) (x : Int) : rn 213 (7, lv, .inl x :: jvr a :: st, w) = jq_gs (mS w a) (1, 9, 0) 213 10 lv (st) (setI w a 2 x) := q_putf (jd_of jb_213 dX9_good_7) jo_213 jk_9_9 (Or.inl rfl) rfl
theorem p213_10 (lv : jmL) (st : List jmV) (w : jmW) : rn 213 (10, lv, st, w) = jq_ldi 213 11 lv st w (jg lv 1) := q_iload_n (jd_of jb_213 dX9_good_10) rfl
theorem p213_11 (lv : jmL) (w : jmW) (x : Int) : rn 213 (11, lv, [.inl x], w) = some (some (.inl x), w) := q_ireturn (jd_of jb_213 dX9_good_11) jr_213
theorem p214_0 (lv : jmL) (st : List jmV) (w : jmW) : rn 214 (0, lv, st, w) = jq_lda 214 1 lv st w (jg lv 0) := q_aload_n (jd_of jb_214 dX9_fault_0) rfl
theorem p214_1 (lv : jmL) (st : List jmV) (w : jmW) : rn 214 (1, lv, st, w) = rn 214 (2, lv, .inl (0) :: st, w) := q_iconst (jd_of jb_214 dX9_fault_1)
theorem p214_2 (lv : jmL) (st : List jmV) (w : jmW) (a : Nat) (x : Int) : rn 214 (2, lv, .inl x :: jvr a :: st, w) = jq_gs (mS w a) (1, 9, 0) 214 5 lv (st) (setI w a 0 x) := q_putf (jd_of jb_214 dX9_fault_2) jo_214 jk_9_54 (Or.inl rfl) rfl
theorem p214_5 (lv : jmL) (st : List jmV) (w : jmW) : rn 214 (5, lv, st, w) = jq_lda 214 6 lv st w (jg lv 0) := q_aload_n (jd_of jb_214 dX9_fault_5) rfl
theorem p214_6 (lv : jmL) (st : List jmV) (w : jmW) (a : Nat) : rn 214 (6, lv, jvr a :: st, w) = jq_gs (mS w a) (1, 9, 0) 214 9 lv (.inl (mI w a 14) :: st) (w) := q_getf (v := fun w a => .inl (mI w a 14)) (jd_of jb_214 dX9_fault_6) jo_214 jk_9_114 (fun _ _ => rfl)
theorem p214_9 (lv : jmL) (w : jmW) (x : Int) : rn 214 (9, lv, [.inl x], w) = some (some (.inl x), w) := q_ireturn (jd_of jb_214 dX9_fault_9) jr_214
theorem p215_0 (lv : jmL) (st : List jmV) (w : jmW) : rn 215 (0, lv, st, w) = jq_lda 215 1 lv st w (jg lv 0) := q_aload_n (jd_of jb_215 dX9_where_0) rfl
theorem p215_1 (lv : jmL) (st : List jmV) (w : jmW) : rn 215 (1, lv, st, w) = rn 215 (2, lv, .inl (0) :: st, w) := q_iconst (jd_of jb_215 dX9_where_1)
theorem p215_2 (lv : jmL) (st : List jmV) (w : jmW) (a : Nat) (x : Int) : rn 215 (2, lv, .inl x :: jvr a :: st, w) = jq_gs (mS w a) (1, 9, 0) 215 5 lv (st) (setI w a 0 x) := q_putf (jd_of jb_215 dX9_where_2) jo_215 jk_9_54 (Or.inl rfl) rfl
theorem p215_5 (lv : jmL) (st : List jmV) (w : jmW) : rn 215 (5, lv, st, w) = jq_lda 215 6 lv st w (jg lv 0) := q_aload_n (jd_of jb_215 dX9_where_5) rfl
theorem p215_6 (lv : jmL) (st : List jmV) (w : jmW) (a : Nat) : rn 215 (6, lv, jvr a :: st, w) = jq_gs (mS w a) (1, 9, 0) 215 9 lv (.inl (mI w a 2) :: st) (w) := q_getf (v := fun w a => .inl (mI w a 2)) (jd_of jb_215 dX9_where_6) jo_215 jk_9_9 (fun _ _ => rfl)
theorem p215_9 (lv : jmL) (w : jmW) (x : Int) : rn 215 (9, lv, [.inl x], w) = some (some (.inl x), w) := q_ireturn (jd_of jb_215 dX9_where_9) jr_215
theorem p216_0 (lv : jmL) (st : List jmV) (w : jmW) : rn 216 (0, lv, st, w) = jq_lda 216 1 lv st w (jg lv 0) := q_aload_n (jd_of jb_216 dX9_cell_0) rfl
theorem p216_1 (lv : jmL) (st : List jmV) (w : jmW) : rn 216 (1, lv, st, w) = rn 216 (2, lv, .inl (0) :: st, w) := q_iconst (jd_of jb_216 dX9_cell_1)
theorem p216_2 (lv : jmL) (st : List jmV) (w : jmW) (a : Nat) (x : Int) : rn 216 (2, lv, .inl x :: jvr a :: st, w) = jq_gs (mS w a) (1, 9, 0) 216 5 lv (st) (setI w a 0 x) := q_putf (jd_of jb_216 dX9_cell_2) jo_216 jk_9_54 (Or.inl rfl) rfl
theorem p216_5 (lv : jmL) (st : List jmV) (w : jmW) : rn 216 (5, lv, st, w) = jq_lda 216 6 lv st w (jg lv 0) := q_aload_n (jd_of jb_216 dX9_cell_5) rfl
theorem p216_6 (lv : jmL) (st : List jmV) (w : jmW) : rn 216 (6, lv, st, w) = jq_ldi 216 7 lv st w (jg lv 1) := q_iload_n (jd_of jb_216 dX9_cell_6) rfl
theorem p216_7 (lv : jmL) (st : List jmV) (w : jmW) : rn 216 (7, lv, st, w) = jq_ldi 216 8 lv st w (jg lv 2) := q_iload_n (jd_of jb_216 dX9_cell_7) rfl
theorem p216_8 (lv : jmL) (st : List jmV) (w : jmW) (b : Nat) (x1 : Int) (x2 : Int) : rn 216 (8, lv, .inl x2 :: .inl x1 :: jvr b :: st, w) = jq_s (mS w b) (1, 9, 0) (jq_b (decide (jwd st ≤ 8)) (jq_c 216 11 lv st (rn 217 (0, [(0, jvr b), (1, .inl x1), (2, .inl x2)], [], w)))) := q_callv (as := [.inl x1, .inl x2]) (rest := st) (jd_of jb_216 dX9_cell_8) jo_216 jk_9_508 rfl rfl rfl jo_217 jf_216_217 (Nat.le_of_ble_eq_true rfl)
theorem p216_11 (lv : jmL) (st : List jmV) (w : jmW) (x : Int) : rn 216 (11, lv, .inl x :: st, w) = if jw x = 0 then rn 216 (40, lv, st, w) else rn 216 (14, lv, st, w) := q_if_eq (jd_of jb_216 dX9_cell_11) (by decide)
theorem p216_14 (lv : jmL) (st : List jmV) (w : jmW) : rn 216 (14, lv, st, w) = jq_lda 216 15 lv st w (jg lv 0) := q_aload_n (jd_of jb_216 dX9_cell_14) rfl
theorem p216_15 (lv : jmL) (st : List jmV) (w : jmW) : rn 216 (15, lv, st, w) = jq_lda 216 16 lv st w (jg lv 0) := q_aload_n (jd_of jb_216 dX9_cell_15) rfl
theorem p216_16 (lv : jmL) (st : List jmV) (w : jmW) (a : Nat) : rn 216 (16, lv, jvr a :: st, w) = jq_gs (mS w a) (1, 9, 0) 216 19 lv (.inr (.inr (mR w a 3)) :: st) (w) := q_getf (v := fun w a => .inr (.inr (mR w a 3))) (jd_of jb_216 dX9_cell_16) jo_216 jk_9_389 (fun _ _ => rfl)
theorem p216_19 (lv : jmL) (st : List jmV) (w : jmW) (a : Nat) : rn 216 (19, lv, jvr a :: st, w) = jq_gs (mS w a) (1, 8, 0) 216 22 lv (.inr (.inr (mR w a 17)) :: st) (w) := q_getf (v := fun w a => .inr (.inr (mR w a 17))) (jd_of jb_216 dX9_cell_19) jo_216 jk_9_275 (fun _ _ => rfl)
theorem p216_22 (lv : jmL) (st : List jmV) (w : jmW) : rn 216 (22, lv, st, w) = jq_lda 216 23 lv st w (jg lv 0) := q_aload_n (jd_of jb_216 dX9_cell_22) rfl
theorem p216_23 (lv : jmL) (st : List jmV) (w : jmW) (a : Nat) : rn 216 (23, lv, jvr a :: st, w) = jq_gs (mS w a) (1, 9, 0) 216 26 lv (.inr (.inr (mR w a 3)) :: st) (w) := q_getf (v := fun w a => .inr (.inr (mR w a 3))) (jd_of jb_216 dX9_cell_23) jo_216 jk_9_389 (fun _ _ => rfl)
theorem p216_26 (lv : jmL) (st : List jmV) (w : jmW) (a : Nat) : rn 216 (26, lv, jvr a :: st, w) = jq_gs (mS w a) (1, 8, 0) 216 29 lv (.inl (mI w a 0) :: st) (w) := q_getf (v := fun w a => .inl (mI w a 0)) (jd_of jb_216 dX9_cell_26) jo_216 jk_9_154 (fun _ _ => rfl)
theorem p216_29 (lv : jmL) (st : List jmV) (w : jmW) : rn 216 (29, lv, st, w) = jq_ldi 216 30 lv st w (jg lv 2) := q_iload_n (jd_of jb_216 dX9_cell_29) rfl
theorem p216_30 (lv : jmL) (st : List jmV) (w : jmW) (x y : Int) : rn 216 (30, lv, .inl y :: .inl x :: st, w) = rn 216 (31, lv, .inl (x * y) :: st, w) := q_imul (jd_of jb_216 dX9_cell_30)
theorem p216_31 (lv : jmL) (st : List jmV) (w : jmW) : rn 216 (31, lv, st, w) = jq_ldi 216 32 lv st w (jg lv 1) := q_iload_n (jd_of jb_216 dX9_cell_31) rfl
theorem p216_32 (lv : jmL) (st : List jmV) (w : jmW) (x y : Int) : rn 216 (32, lv, .inl y :: .inl x :: st, w) = rn 216 (33, lv, .inl (x + y) :: st, w) := q_iadd (jd_of jb_216 dX9_cell_32)
theorem p216_33 (lv : jmL) (st : List jmV) (w : jmW) (a : Nat) (j : Int) : rn 216 (33, lv, .inl j :: jvr a :: st, w) = jq_gr (mS w a) 0 j 216 34 lv (.inl (mI w a (jix j)) :: st) (w) := q_iald (jd_of jb_216 dX9_cell_33)
theorem p216_34 (lv : jmL) (st : List jmV) (w : jmW) (b : Nat) (x1 : Int) : rn 216 (34, lv, .inl x1 :: jvr b :: st, w) = jq_s (mS w b) (1, 9, 0) (jq_b (decide (jwd st ≤ 8)) (jq_c 216 37 lv st (rn 213 (0, [(0, jvr b), (1, .inl x1)], [], w)))) := q_callv (as := [.inl x1]) (rest := st) (jd_of jb_216 dX9_cell_34) jo_216 jk_9_64 rfl rfl rfl jo_213 jf_216_213 (Nat.le_of_ble_eq_true rfl)
theorem p216_37 (lv : jmL) (st : List jmV) (w : jmW) : rn 216 (37, lv, st, w) = rn 216 (45, lv, st, w) := q_goto (jd_of jb_216 dX9_cell_37) (by decide)
theorem p216_40 (lv : jmL) (st : List jmV) (w : jmW) : rn 216 (40, lv, st, w) = jq_lda 216 41 lv st w (jg lv 0) := q_aload_n (jd_of jb_216 dX9_cell_40) rfl
theorem p216_41 (lv : jmL) (st : List jmV) (w : jmW) : rn 216 (41, lv, st, w) = rn 216 (42, lv, .inl (1) :: st, w) := q_iconst (jd_of jb_216 dX9_cell_41)
theorem p216_42 (lv : jmL) (st : List jmV) (w : jmW) (b : Nat) (x1 : Int) : rn 216 (42, lv, .inl x1 :: jvr b :: st, w) = jq_s (mS w b) (1, 9, 0) (jq_b (decide (jwd st ≤ 8)) (jq_c 216 45 lv st (rn 176 (0, [(0, jvr b), (1, .inl x1)], [], w)))) := q_callv (as := [.inl x1]) (rest := st) (jd_of jb_216 dX9_cell_42) jo_216 jk_9_60 rfl rfl rfl jo_176 jf_216_176 (Nat.le_of_ble_eq_true rfl)
theorem p216_45 (lv : jmL) (w : jmW) (x : Int) : rn 216 (45, lv, [.inl x], w) = some (some (.inl x), w) := q_ireturn (jd_of jb_216 dX9_cell_45) jr_216
theorem p217_0 (lv : jmL) (st : List jmV) (w : jmW) : rn 217 (0, lv, st, w) = jq_lda 217 1 lv st w (jg lv 0) := q_aload_n (jd_of jb_217 dX9_isCell_0) rfl
theorem p217_1 (lv : jmL) (st : List jmV) (w : jmW) (a : Nat) : rn 217 (1, lv, jvr a :: st, w) = jq_gs (mS w a) (1, 9, 0) 217 4 lv (.inr (.inr (mR w a 3)) :: st) (w) := q_getf (v := fun w a => .inr (.inr (mR w a 3))) (jd_of jb_217 dX9_isCell_1) jo_217 jk_9_389 (fun _ _ => rfl)
theorem p217_4n (lv : jmL) (st : List jmV) (w : jmW) : rn 217 (4, lv, .inr (.inr none) :: st, w) = rn 217 (45, lv, st, w) := q_ifnull_n (tgt := 45) (jd_of jb_217 dX9_isCell_4) (by decide)
theorem p217_4s (lv : jmL) (st : List jmV) (w : jmW) (a : Nat) : rn 217 (4, lv, .inr (.inr (some a)) :: st, w) = rn 217 (7, lv, st, w) := q_ifnull_s (tgt := 45) (jd_of jb_217 dX9_isCell_4) (by decide)
theorem p217_7 (lv : jmL) (st : List jmV) (w : jmW) : rn 217 (7, lv, st, w) = jq_ldi 217 8 lv st w (jg lv 1) := q_iload_n (jd_of jb_217 dX9_isCell_7) rfl
theorem p217_8 (lv : jmL) (st : List jmV) (w : jmW) : rn 217 (8, lv, st, w) = rn 217 (9, lv, .inl (0) :: st, w) := q_iconst (jd_of jb_217 dX9_isCell_8)
theorem p217_9 (lv : jmL) (st : List jmV) (w : jmW) : rn 217 (9, lv, st, w) = jq_lda 217 10 lv st w (jg lv 0) := q_aload_n (jd_of jb_217 dX9_isCell_9) rfl
theorem p217_10 (lv : jmL) (st : List jmV) (w : jmW) (a : Nat) : rn 217 (10, lv, jvr a :: st, w) = jq_gs (mS w a) (1, 9, 0) 217 13 lv (.inr (.inr (mR w a 3)) :: st) (w) := q_getf (v := fun w a => .inr (.inr (mR w a 3))) (jd_of jb_217 dX9_isCell_10) jo_217 jk_9_389 (fun _ _ => rfl)
theorem p217_13 (lv : jmL) (st : List jmV) (w : jmW) (a : Nat) : rn 217 (13, lv, jvr a :: st, w) = jq_gs (mS w a) (1, 8, 0) 217 16 lv (.inl (mI w a 0) :: st) (w) := q_getf (v := fun w a => .inl (mI w a 0)) (jd_of jb_217 dX9_isCell_13) jo_217 jk_9_154 (fun _ _ => rfl)
theorem p217_16 (lv : jmL) (st : List jmV) (w : jmW) : rn 217 (16, lv, st, w) = rn 217 (17, lv, .inl (1) :: st, w) := q_iconst (jd_of jb_217 dX9_isCell_16)
theorem p217_17 (lv : jmL) (st : List jmV) (w : jmW) (x y : Int) : rn 217 (17, lv, .inl y :: .inl x :: st, w) = rn 217 (18, lv, .inl (x - y) :: st, w) := q_isub (jd_of jb_217 dX9_isCell_17)
theorem p217_18 (lv : jmL) (st : List jmV) (w : jmW) (x1 : Int) (x2 : Int) (x3 : Int) : rn 217 (18, lv, .inl x3 :: .inl x2 :: .inl x1 :: st, w) = jq_b (decide (jwd st ≤ 8)) (jq_c 217 21 lv st (rn 192 (0, [(0, .inl x1), (1, .inl x2), (2, .inl x3)], [], w))) := q_calls (as := [.inl x1, .inl x2, .inl x3]) (rest := st) (jd_of jb_217 dX9_isCell_18) jo_217 jk_9_135 rfl rfl rfl jf_217_192 (Nat.le_of_ble_eq_true rfl)
theorem p217_21 (lv : jmL) (st : List jmV) (w : jmW) (x : Int) : rn 217 (21, lv, .inl x :: st, w) = if jw x = 0 then rn 217 (45, lv, st, w) else rn 217 (24, lv, st, w) := q_if_eq (jd_of jb_217 dX9_isCell_21) (by decide)
theorem p217_24 (lv : jmL) (st : List jmV) (w : jmW) : rn 217 (24, lv, st, w) = jq_ldi 217 25 lv st w (jg lv 2) := q_iload_n (jd_of jb_217 dX9_isCell_24) rfl
theorem p217_25 (lv : jmL) (st : List jmV) (w : jmW) : rn 217 (25, lv, st, w) = rn 217 (26, lv, .inl (0) :: st, w) := q_iconst (jd_of jb_217 dX9_isCell_25)
theorem p217_26 (lv : jmL) (st : List jmV) (w : jmW) : rn 217 (26, lv, st, w) = jq_lda 217 27 lv st w (jg lv 0) := q_aload_n (jd_of jb_217 dX9_isCell_26) rfl
theorem p217_27 (lv : jmL) (st : List jmV) (w : jmW) (a : Nat) : rn 217 (27, lv, jvr a :: st, w) = jq_gs (mS w a) (1, 9, 0) 217 30 lv (.inr (.inr (mR w a 3)) :: st) (w) := q_getf (v := fun w a => .inr (.inr (mR w a 3))) (jd_of jb_217 dX9_isCell_27) jo_217 jk_9_389 (fun _ _ => rfl)
theorem p217_30 (lv : jmL) (st : List jmV) (w : jmW) (a : Nat) : rn 217 (30, lv, jvr a :: st, w) = jq_gs (mS w a) (1, 8, 0) 217 33 lv (.inl (mI w a 1) :: st) (w) := q_getf (v := fun w a => .inl (mI w a 1)) (jd_of jb_217 dX9_isCell_30) jo_217 jk_9_161 (fun _ _ => rfl)
theorem p217_33 (lv : jmL) (st : List jmV) (w : jmW) : rn 217 (33, lv, st, w) = rn 217 (34, lv, .inl (1) :: st, w) := q_iconst (jd_of jb_217 dX9_isCell_33)
theorem p217_34 (lv : jmL) (st : List jmV) (w : jmW) (x y : Int) : rn 217 (34, lv, .inl y :: .inl x :: st, w) = rn 217 (35, lv, .inl (x - y) :: st, w) := q_isub (jd_of jb_217 dX9_isCell_34)
theorem p217_35 (lv : jmL) (st : List jmV) (w : jmW) (x1 : Int) (x2 : Int) (x3 : Int) : rn 217 (35, lv, .inl x3 :: .inl x2 :: .inl x1 :: st, w) = jq_b (decide (jwd st ≤ 8)) (jq_c 217 38 lv st (rn 192 (0, [(0, .inl x1), (1, .inl x2), (2, .inl x3)], [], w))) := q_calls (as := [.inl x1, .inl x2, .inl x3]) (rest := st) (jd_of jb_217 dX9_isCell_35) jo_217 jk_9_135 rfl rfl rfl jf_217_192 (Nat.le_of_ble_eq_true rfl)
theorem p217_38 (lv : jmL) (st : List jmV) (w : jmW) (x : Int) : rn 217 (38, lv, .inl x :: st, w) = if jw x = 0 then rn 217 (45, lv, st, w) else rn 217 (41, lv, st, w) := q_if_eq (jd_of jb_217 dX9_isCell_38) (by decide)
theorem p217_41 (lv : jmL) (st : List jmV) (w : jmW) : rn 217 (41, lv, st, w) = rn 217 (42, lv, .inl (1) :: st, w) := q_iconst (jd_of jb_217 dX9_isCell_41)
theorem p217_42 (lv : jmL) (st : List jmV) (w : jmW) : rn 217 (42, lv, st, w) = rn 217 (46, lv, st, w) := q_goto (jd_of jb_217 dX9_isCell_42) (by decide)
theorem p217_45 (lv : jmL) (st : List jmV) (w : jmW) : rn 217 (45, lv, st, w) = rn 217 (46, lv, .inl (0) :: st, w) := q_iconst (jd_of jb_217 dX9_isCell_45)
theorem p217_46 (lv : jmL) (w : jmW) (x : Int) : rn 217 (46, lv, [.inl x], w) = jq_b (decide (x = 0 ∨ x = 1)) (some (some (.inl x), w)) := q_zreturn (jd_of jb_217 dX9_isCell_46) jr_217
theorem p218_0 (lv : jmL) (st : List jmV) (w : jmW) : rn 218 (0, lv, st, w) = jq_lda 218 1 lv st w (jg lv 0) := q_aload_n (jd_of jb_218 dX9_many_0) rfl
theorem p218_1 (lv : jmL) (st : List jmV) (w : jmW) : rn 218 (1, lv, st, w) = rn 218 (2, lv, .inl (0) :: st, w) := q_iconst (jd_of jb_218 dX9_many_1)
theorem p218_2 (lv : jmL) (st : List jmV) (w : jmW) (a : Nat) (x : Int) : rn 218 (2, lv, .inl x :: jvr a :: st, w) = jq_gs (mS w a) (1, 9, 0) 218 5 lv (st) (setI w a 0 x) := q_putf (jd_of jb_218 dX9_many_2) jo_218 jk_9_54 (Or.inl rfl) rfl
theorem p218_5 (lv : jmL) (st : List jmV) (w : jmW) : rn 218 (5, lv, st, w) = jq_lda 218 6 lv st w (jg lv 0) := q_aload_n (jd_of jb_218 dX9_many_5) rfl
theorem p218_6 (lv : jmL) (st : List jmV) (w : jmW) (a : Nat) : rn 218 (6, lv, jvr a :: st, w) = jq_gs (mS w a) (1, 9, 0) 218 9 lv (.inr (.inr (mR w a 3)) :: st) (w) := q_getf (v := fun w a => .inr (.inr (mR w a 3))) (jd_of jb_218 dX9_many_6) jo_218 jk_9_389 (fun _ _ => rfl)
theorem p218_9n (lv : jmL) (st : List jmV) (w : jmW) : rn 218 (9, lv, .inr (.inr none) :: st, w) = rn 218 (12, lv, st, w) := q_ifnonnull_n (tgt := 20) (jd_of jb_218 dX9_many_9) (by decide)
theorem p218_9s (lv : jmL) (st : List jmV) (w : jmW) (a : Nat) : rn 218 (9, lv, .inr (.inr (some a)) :: st, w) = rn 218 (20, lv, st, w) := q_ifnonnull_s (tgt := 20) (jd_of jb_218 dX9_many_9) (by decide)
theorem p218_12 (lv : jmL) (st : List jmV) (w : jmW) : rn 218 (12, lv, st, w) = jq_lda 218 13 lv st w (jg lv 0) := q_aload_n (jd_of jb_218 dX9_many_12) rfl
theorem p218_13 (lv : jmL) (st : List jmV) (w : jmW) : rn 218 (13, lv, st, w) = rn 218 (14, lv, .inl (1) :: st, w) := q_iconst (jd_of jb_218 dX9_many_13)
theorem p218_14 (lv : jmL) (st : List jmV) (w : jmW) (b : Nat) (x1 : Int) : rn 218 (14, lv, .inl x1 :: jvr b :: st, w) = jq_s (mS w b) (1, 9, 0) (jq_b (decide (jwd st ≤ 8)) (jq_c 218 17 lv st (rn 176 (0, [(0, jvr b), (1, .inl x1)], [], w)))) := q_callv (as := [.inl x1]) (rest := st) (jd_of jb_218 dX9_many_14) jo_218 jk_9_60 rfl rfl rfl jo_176 jf_218_176 (Nat.le_of_ble_eq_true rfl)
theorem p218_17 (lv : jmL) (st : List jmV) (w : jmW) : rn 218 (17, lv, st, w) = rn 218 (32, lv, st, w) := q_goto (jd_of jb_218 dX9_many_17) (by decide)
theorem p218_20 (lv : jmL) (st : List jmV) (w : jmW) : rn 218 (20, lv, st, w) = jq_lda 218 21 lv st w (jg lv 0) := q_aload_n (jd_of jb_218 dX9_many_20) rfl
theorem p218_21 (lv : jmL) (st : List jmV) (w : jmW) : rn 218 (21, lv, st, w) = jq_lda 218 22 lv st w (jg lv 0) := q_aload_n (jd_of jb_218 dX9_many_21) rfl
theorem p218_22 (lv : jmL) (st : List jmV) (w : jmW) (a : Nat) : rn 218 (22, lv, jvr a :: st, w) = jq_gs (mS w a) (1, 9, 0) 218 25 lv (.inr (.inr (mR w a 18)) :: st) (w) := q_getf (v := fun w a => .inr (.inr (mR w a 18))) (jd_of jb_218 dX9_many_22) jo_218 jk_9_21 (fun _ _ => rfl)
theorem p218_25 (lv : jmL) (st : List jmV) (w : jmW) : rn 218 (25, lv, st, w) = rn 218 (28, lv, .inl (289) :: st, w) := q_sipush (jd_of jb_218 dX9_many_25) (by decide +kernel)
theorem p218_28 (lv : jmL) (st : List jmV) (w : jmW) (a : Nat) (j : Int) : rn 218 (28, lv, .inl j :: jvr a :: st, w) = jq_gr (mS w a) 0 j 218 29 lv (.inl (mI w a (jix j)) :: st) (w) := q_iald (jd_of jb_218 dX9_many_28)
theorem p218_29 (lv : jmL) (st : List jmV) (w : jmW) (b : Nat) (x1 : Int) : rn 218 (29, lv, .inl x1 :: jvr b :: st, w) = jq_s (mS w b) (1, 9, 0) (jq_b (decide (jwd st ≤ 8)) (jq_c 218 32 lv st (rn 213 (0, [(0, jvr b), (1, .inl x1)], [], w)))) := q_callv (as := [.inl x1]) (rest := st) (jd_of jb_218 dX9_many_29) jo_218 jk_9_64 rfl rfl rfl jo_213 jf_218_213 (Nat.le_of_ble_eq_true rfl)
theorem p218_32 (lv : jmL) (w : jmW) (x : Int) : rn 218 (32, lv, [.inl x], w) = some (some (.inl x), w) := q_ireturn (jd_of jb_218 dX9_many_32) jr_218
theorem p219_0 (lv : jmL) (st : List jmV) (w : jmW) : rn 219 (0, lv, st, w) = jq_lda 219 1 lv st w (jg lv 0) := q_aload_n (jd_of jb_219 dX9_dancer_0) rfl
theorem p219_1 (lv : jmL) (st : List jmV) (w : jmW) : rn 219 (1, lv, st, w) = rn 219 (2, lv, .inl (0) :: st, w) := q_iconst (jd_of jb_219 dX9_dancer_1)
theorem p219_2 (lv : jmL) (st : List jmV) (w : jmW) (a : Nat) (x : Int) : rn 219 (2, lv, .inl x :: jvr a :: st, w) = jq_gs (mS w a) (1, 9, 0) 219 5 lv (st) (setI w a 0 x) := q_putf (jd_of jb_219 dX9_dancer_2) jo_219 jk_9_54 (Or.inl rfl) rfl
theorem p219_5 (lv : jmL) (st : List jmV) (w : jmW) : rn 219 (5, lv, st, w) = jq_lda 219 6 lv st w (jg lv 0) := q_aload_n (jd_of jb_219 dX9_dancer_5) rfl
theorem p219_6 (lv : jmL) (st : List jmV) (w : jmW) : rn 219 (6, lv, st, w) = jq_ldi 219 7 lv st w (jg lv 1) := q_iload_n (jd_of jb_219 dX9_dancer_6) rfl
theorem p219_7 (lv : jmL) (st : List jmV) (w : jmW) (b : Nat) (x1 : Int) : rn 219 (7, lv, .inl x1 :: jvr b :: st, w) = jq_s (mS w b) (1, 9, 0) (jq_b (decide (jwd st ≤ 8)) (jq_c 219 10 lv st (rn 220 (0, [(0, jvr b), (1, .inl x1)], [], w)))) := q_callv (as := [.inl x1]) (rest := st) (jd_of jb_219 dX9_dancer_7) jo_219 jk_9_511 rfl rfl rfl jo_220 jf_219_220 (Nat.le_of_ble_eq_true rfl)
theorem p219_10 (lv : jmL) (st : List jmV) (w : jmW) (x : Int) : rn 219 (10, lv, .inl x :: st, w) = if jw x = 0 then rn 219 (23, lv, st, w) else rn 219 (13, lv, st, w) := q_if_eq (jd_of jb_219 dX9_dancer_10) (by decide)
theorem p219_13 (lv : jmL) (st : List jmV) (w : jmW) : rn 219 (13, lv, st, w) = jq_ldi 219 14 lv st w (jg lv 2) := q_iload_n (jd_of jb_219 dX9_dancer_13) rfl
theorem p219_14 (lv : jmL) (st : List jmV) (w : jmW) : rn 219 (14, lv, st, w) = rn 219 (15, lv, .inl (0) :: st, w) := q_iconst (jd_of jb_219 dX9_dancer_14)
theorem p219_15 (lv : jmL) (st : List jmV) (w : jmW) : rn 219 (15, lv, st, w) = rn 219 (17, lv, .inl (6) :: st, w) := q_bipush (jd_of jb_219 dX9_dancer_15) (by decide +kernel)
theorem p219_17 (lv : jmL) (st : List jmV) (w : jmW) (x1 : Int) (x2 : Int) (x3 : Int) : rn 219 (17, lv, .inl x3 :: .inl x2 :: .inl x1 :: st, w) = jq_b (decide (jwd st ≤ 8)) (jq_c 219 20 lv st (rn 192 (0, [(0, .inl x1), (1, .inl x2), (2, .inl x3)], [], w))) := q_calls (as := [.inl x1, .inl x2, .inl x3]) (rest := st) (jd_of jb_219 dX9_dancer_17) jo_219 jk_9_135 rfl rfl rfl jf_219_192 (Nat.le_of_ble_eq_true rfl)
theorem p219_20 (lv : jmL) (st : List jmV) (w : jmW) (x : Int) : rn 219 (20, lv, .inl x :: st, w) = if jw x = 0 then rn 219 (23, lv, st, w) else rn 219 (29, lv, st, w) := q_if_ne (jd_of jb_219 dX9_dancer_20) (by decide)
theorem p219_23 (lv : jmL) (st : List jmV) (w : jmW) : rn 219 (23, lv, st, w) = jq_lda 219 24 lv st w (jg lv 0) := q_aload_n (jd_of jb_219 dX9_dancer_23) rfl
theorem p219_24 (lv : jmL) (st : List jmV) (w : jmW) : rn 219 (24, lv, st, w) = rn 219 (25, lv, .inl (1) :: st, w) := q_iconst (jd_of jb_219 dX9_dancer_24)
theorem p219_25 (lv : jmL) (st : List jmV) (w : jmW) (b : Nat) (x1 : Int) : rn 219 (25, lv, .inl x1 :: jvr b :: st, w) = jq_s (mS w b) (1, 9, 0) (jq_b (decide (jwd st ≤ 8)) (jq_c 219 28 lv st (rn 176 (0, [(0, jvr b), (1, .inl x1)], [], w)))) := q_callv (as := [.inl x1]) (rest := st) (jd_of jb_219 dX9_dancer_25) jo_219 jk_9_60 rfl rfl rfl jo_176 jf_219_176 (Nat.le_of_ble_eq_true rfl)
theorem p219_28 (lv : jmL) (w : jmW) (x : Int) : rn 219 (28, lv, [.inl x], w) = some (some (.inl x), w) := q_ireturn (jd_of jb_219 dX9_dancer_28) jr_219
theorem p219_29 (lv : jmL) (st : List jmV) (w : jmW) : rn 219 (29, lv, st, w) = jq_ldi 219 30 lv st w (jg lv 2) := q_iload_n (jd_of jb_219 dX9_dancer_29) rfl
theorem p219_30 (lv : jmL) (st : List jmV) (w : jmW) (x : Int) : rn 219 (30, lv, .inl x :: st, w) = if jw x = 0 then rn 219 (68, lv, st, w) else if jw x = 1 then rn 219 (83, lv, st, w) else if jw x = 2 then rn 219 (96, lv, st, w) else if jw x = 3 then rn 219 (118, lv, st, w) else if jw x = 4 then rn 219 (133, lv, st, w) else if jw x = 5 then rn 219 (148, lv, st, w) else rn 219 (163, lv, st, w) := by
  by_cases h0 : jw x = 0
  · rw [if_pos h0]; exact q_table (jd_of jb_219 dX9_dancer_30) (by omega) (by omega) (off := 38) (by rw [h0]; rfl) (by decide)
  rw [if_neg h0]
  by_cases h1 : jw x = 1
  · rw [if_pos h1]; exact q_table (jd_of jb_219 dX9_dancer_30) (by omega) (by omega) (off := 53) (by rw [h1]; rfl) (by decide)
  rw [if_neg h1]
  by_cases h2 : jw x = 2
  · rw [if_pos h2]; exact q_table (jd_of jb_219 dX9_dancer_30) (by omega) (by omega) (off := 66) (by rw [h2]; rfl) (by decide)
  rw [if_neg h2]
  by_cases h3 : jw x = 3
  · rw [if_pos h3]; exact q_table (jd_of jb_219 dX9_dancer_30) (by omega) (by omega) (off := 88) (by rw [h3]; rfl) (by decide)
  rw [if_neg h3]
  by_cases h4 : jw x = 4
  · rw [if_pos h4]; exact q_table (jd_of jb_219 dX9_dancer_30) (by omega) (by omega) (off := 103) (by rw [h4]; rfl) (by decide)
  rw [if_neg h4]
  by_cases h5 : jw x = 5
  · rw [if_pos h5]; exact q_table (jd_of jb_219 dX9_dancer_30) (by omega) (by omega) (off := 118) (by rw [h5]; rfl) (by decide)
  rw [if_neg h5]
  exact q_tabled (jd_of jb_219 dX9_dancer_30) (by omega) (by decide)
theorem p219_68 (lv : jmL) (st : List jmV) (w : jmW) : rn 219 (68, lv, st, w) = jq_lda 219 69 lv st w (jg lv 0) := q_aload_n (jd_of jb_219 dX9_dancer_68) rfl
theorem p219_69 (lv : jmL) (st : List jmV) (w : jmW) : rn 219 (69, lv, st, w) = jq_lda 219 70 lv st w (jg lv 0) := q_aload_n (jd_of jb_219 dX9_dancer_69) rfl
theorem p219_70 (lv : jmL) (st : List jmV) (w : jmW) (a : Nat) : rn 219 (70, lv, jvr a :: st, w) = jq_gs (mS w a) (1, 9, 0) 219 73 lv (.inr (.inr (mR w a 18)) :: st) (w) := q_getf (v := fun w a => .inr (.inr (mR w a 18))) (jd_of jb_219 dX9_dancer_70) jo_219 jk_9_21 (fun _ _ => rfl)
theorem p219_73 (lv : jmL) (st : List jmV) (w : jmW) : rn 219 (73, lv, st, w) = rn 219 (76, lv, .inl (204) :: st, w) := q_sipush (jd_of jb_219 dX9_dancer_73) (by decide +kernel)
theorem p219_76 (lv : jmL) (st : List jmV) (w : jmW) : rn 219 (76, lv, st, w) = jq_ldi 219 77 lv st w (jg lv 1) := q_iload_n (jd_of jb_219 dX9_dancer_76) rfl
theorem p219_77 (lv : jmL) (st : List jmV) (w : jmW) (x y : Int) : rn 219 (77, lv, .inl y :: .inl x :: st, w) = rn 219 (78, lv, .inl (x + y) :: st, w) := q_iadd (jd_of jb_219 dX9_dancer_77)
theorem p219_78 (lv : jmL) (st : List jmV) (w : jmW) (a : Nat) (j : Int) : rn 219 (78, lv, .inl j :: jvr a :: st, w) = jq_gr (mS w a) 0 j 219 79 lv (.inl (mI w a (jix j)) :: st) (w) := q_iald (jd_of jb_219 dX9_dancer_78)
theorem p219_79 (lv : jmL) (st : List jmV) (w : jmW) (b : Nat) (x1 : Int) : rn 219 (79, lv, .inl x1 :: jvr b :: st, w) = jq_s (mS w b) (1, 9, 0) (jq_b (decide (jwd st ≤ 8)) (jq_c 219 82 lv st (rn 213 (0, [(0, jvr b), (1, .inl x1)], [], w)))) := q_callv (as := [.inl x1]) (rest := st) (jd_of jb_219 dX9_dancer_79) jo_219 jk_9_64 rfl rfl rfl jo_213 jf_219_213 (Nat.le_of_ble_eq_true rfl)
theorem p219_82 (lv : jmL) (w : jmW) (x : Int) : rn 219 (82, lv, [.inl x], w) = some (some (.inl x), w) := q_ireturn (jd_of jb_219 dX9_dancer_82) jr_219
theorem p219_83 (lv : jmL) (st : List jmV) (w : jmW) : rn 219 (83, lv, st, w) = jq_lda 219 84 lv st w (jg lv 0) := q_aload_n (jd_of jb_219 dX9_dancer_83) rfl
theorem p219_84 (lv : jmL) (st : List jmV) (w : jmW) : rn 219 (84, lv, st, w) = jq_lda 219 85 lv st w (jg lv 0) := q_aload_n (jd_of jb_219 dX9_dancer_84) rfl
theorem p219_85 (lv : jmL) (st : List jmV) (w : jmW) (a : Nat) : rn 219 (85, lv, jvr a :: st, w) = jq_gs (mS w a) (1, 9, 0) 219 88 lv (.inr (.inr (mR w a 18)) :: st) (w) := q_getf (v := fun w a => .inr (.inr (mR w a 18))) (jd_of jb_219 dX9_dancer_85) jo_219 jk_9_21 (fun _ _ => rfl)
theorem p219_88 (lv : jmL) (st : List jmV) (w : jmW) : rn 219 (88, lv, st, w) = jq_ldi 219 89 lv st w (jg lv 1) := q_iload_n (jd_of jb_219 dX9_dancer_88) rfl
theorem p219_89 (lv : jmL) (st : List jmV) (w : jmW) (x1 : Option Nat) (x2 : Int) : rn 219 (89, lv, .inl x2 :: .inr (.inr x1) :: st, w) = jq_b (decide (jwd st ≤ 8)) (jq_c 219 92 lv st (rn 221 (0, [(0, .inr (.inr x1)), (1, .inl x2)], [], w))) := q_calls (as := [.inr (.inr x1), .inl x2]) (rest := st) (jd_of jb_219 dX9_dancer_89) jo_219 jk_9_409 rfl rfl rfl jf_219_221 (Nat.le_of_ble_eq_true rfl)
theorem p219_92 (lv : jmL) (st : List jmV) (w : jmW) (b : Nat) (x1 : Int) : rn 219 (92, lv, .inl x1 :: jvr b :: st, w) = jq_s (mS w b) (1, 9, 0) (jq_b (decide (jwd st ≤ 8)) (jq_c 219 95 lv st (rn 213 (0, [(0, jvr b), (1, .inl x1)], [], w)))) := q_callv (as := [.inl x1]) (rest := st) (jd_of jb_219 dX9_dancer_92) jo_219 jk_9_64 rfl rfl rfl jo_213 jf_219_213 (Nat.le_of_ble_eq_true rfl)
theorem p219_95 (lv : jmL) (w : jmW) (x : Int) : rn 219 (95, lv, [.inl x], w) = some (some (.inl x), w) := q_ireturn (jd_of jb_219 dX9_dancer_95) jr_219
theorem p219_96 (lv : jmL) (st : List jmV) (w : jmW) : rn 219 (96, lv, st, w) = jq_lda 219 97 lv st w (jg lv 0) := q_aload_n (jd_of jb_219 dX9_dancer_96) rfl
theorem p219_97 (lv : jmL) (st : List jmV) (w : jmW) : rn 219 (97, lv, st, w) = jq_ldi 219 98 lv st w (jg lv 1) := q_iload_n (jd_of jb_219 dX9_dancer_97) rfl
theorem p219_98 (lv : jmL) (st : List jmV) (w : jmW) (x : Int) : rn 219 (98, lv, .inl x :: st, w) = if jw x = 0 then rn 219 (101, lv, st, w) else rn 219 (106, lv, st, w) := q_if_ne (jd_of jb_219 dX9_dancer_98) (by decide)
theorem p219_101 (lv : jmL) (st : List jmV) (w : jmW) : rn 219 (101, lv, st, w) = rn 219 (103, lv, .inl (-2) :: st, w) := q_bipush (jd_of jb_219 dX9_dancer_101) (by decide +kernel)
theorem p219_103 (lv : jmL) (st : List jmV) (w : jmW) : rn 219 (103, lv, st, w) = rn 219 (114, lv, st, w) := q_goto (jd_of jb_219 dX9_dancer_103) (by decide)
theorem p219_106 (lv : jmL) (st : List jmV) (w : jmW) : rn 219 (106, lv, st, w) = jq_lda 219 107 lv st w (jg lv 0) := q_aload_n (jd_of jb_219 dX9_dancer_106) rfl
theorem p219_107 (lv : jmL) (st : List jmV) (w : jmW) (a : Nat) : rn 219 (107, lv, jvr a :: st, w) = jq_gs (mS w a) (1, 9, 0) 219 110 lv (.inr (.inr (mR w a 18)) :: st) (w) := q_getf (v := fun w a => .inr (.inr (mR w a 18))) (jd_of jb_219 dX9_dancer_107) jo_219 jk_9_21 (fun _ _ => rfl)
theorem p219_110 (lv : jmL) (st : List jmV) (w : jmW) : rn 219 (110, lv, st, w) = jq_ldi 219 111 lv st w (jg lv 1) := q_iload_n (jd_of jb_219 dX9_dancer_110) rfl
theorem p219_111 (lv : jmL) (st : List jmV) (w : jmW) (x1 : Option Nat) (x2 : Int) : rn 219 (111, lv, .inl x2 :: .inr (.inr x1) :: st, w) = jq_b (decide (jwd st ≤ 8)) (jq_c 219 114 lv st (rn 222 (0, [(0, .inr (.inr x1)), (1, .inl x2)], [], w))) := q_calls (as := [.inr (.inr x1), .inl x2]) (rest := st) (jd_of jb_219 dX9_dancer_111) jo_219 jk_9_458 rfl rfl rfl jf_219_222 (Nat.le_of_ble_eq_true rfl)
theorem p219_114 (lv : jmL) (st : List jmV) (w : jmW) (b : Nat) (x1 : Int) : rn 219 (114, lv, .inl x1 :: jvr b :: st, w) = jq_s (mS w b) (1, 9, 0) (jq_b (decide (jwd st ≤ 8)) (jq_c 219 117 lv st (rn 213 (0, [(0, jvr b), (1, .inl x1)], [], w)))) := q_callv (as := [.inl x1]) (rest := st) (jd_of jb_219 dX9_dancer_114) jo_219 jk_9_64 rfl rfl rfl jo_213 jf_219_213 (Nat.le_of_ble_eq_true rfl)
theorem p219_117 (lv : jmL) (w : jmW) (x : Int) : rn 219 (117, lv, [.inl x], w) = some (some (.inl x), w) := q_ireturn (jd_of jb_219 dX9_dancer_117) jr_219
theorem p219_118 (lv : jmL) (st : List jmV) (w : jmW) : rn 219 (118, lv, st, w) = jq_lda 219 119 lv st w (jg lv 0) := q_aload_n (jd_of jb_219 dX9_dancer_118) rfl
theorem p219_119 (lv : jmL) (st : List jmV) (w : jmW) : rn 219 (119, lv, st, w) = jq_lda 219 120 lv st w (jg lv 0) := q_aload_n (jd_of jb_219 dX9_dancer_119) rfl
theorem p219_120 (lv : jmL) (st : List jmV) (w : jmW) (a : Nat) : rn 219 (120, lv, jvr a :: st, w) = jq_gs (mS w a) (1, 9, 0) 219 123 lv (.inr (.inr (mR w a 18)) :: st) (w) := q_getf (v := fun w a => .inr (.inr (mR w a 18))) (jd_of jb_219 dX9_dancer_120) jo_219 jk_9_21 (fun _ _ => rfl)
theorem p219_123 (lv : jmL) (st : List jmV) (w : jmW) : rn 219 (123, lv, st, w) = rn 219 (126, lv, .inl (220) :: st, w) := q_sipush (jd_of jb_219 dX9_dancer_123) (by decide +kernel)
theorem p219_126 (lv : jmL) (st : List jmV) (w : jmW) : rn 219 (126, lv, st, w) = jq_ldi 219 127 lv st w (jg lv 1) := q_iload_n (jd_of jb_219 dX9_dancer_126) rfl
theorem p219_127 (lv : jmL) (st : List jmV) (w : jmW) (x y : Int) : rn 219 (127, lv, .inl y :: .inl x :: st, w) = rn 219 (128, lv, .inl (x + y) :: st, w) := q_iadd (jd_of jb_219 dX9_dancer_127)
theorem p219_128 (lv : jmL) (st : List jmV) (w : jmW) (a : Nat) (j : Int) : rn 219 (128, lv, .inl j :: jvr a :: st, w) = jq_gr (mS w a) 0 j 219 129 lv (.inl (mI w a (jix j)) :: st) (w) := q_iald (jd_of jb_219 dX9_dancer_128)
theorem p219_129 (lv : jmL) (st : List jmV) (w : jmW) (b : Nat) (x1 : Int) : rn 219 (129, lv, .inl x1 :: jvr b :: st, w) = jq_s (mS w b) (1, 9, 0) (jq_b (decide (jwd st ≤ 8)) (jq_c 219 132 lv st (rn 213 (0, [(0, jvr b), (1, .inl x1)], [], w)))) := q_callv (as := [.inl x1]) (rest := st) (jd_of jb_219 dX9_dancer_129) jo_219 jk_9_64 rfl rfl rfl jo_213 jf_219_213 (Nat.le_of_ble_eq_true rfl)
theorem p219_132 (lv : jmL) (w : jmW) (x : Int) : rn 219 (132, lv, [.inl x], w) = some (some (.inl x), w) := q_ireturn (jd_of jb_219 dX9_dancer_132) jr_219
theorem p219_133 (lv : jmL) (st : List jmV) (w : jmW) : rn 219 (133, lv, st, w) = jq_lda 219 134 lv st w (jg lv 0) := q_aload_n (jd_of jb_219 dX9_dancer_133) rfl
theorem p219_134 (lv : jmL) (st : List jmV) (w : jmW) : rn 219 (134, lv, st, w) = jq_lda 219 135 lv st w (jg lv 0) := q_aload_n (jd_of jb_219 dX9_dancer_134) rfl
theorem p219_135 (lv : jmL) (st : List jmV) (w : jmW) (a : Nat) : rn 219 (135, lv, jvr a :: st, w) = jq_gs (mS w a) (1, 9, 0) 219 138 lv (.inr (.inr (mR w a 18)) :: st) (w) := q_getf (v := fun w a => .inr (.inr (mR w a 18))) (jd_of jb_219 dX9_dancer_135) jo_219 jk_9_21 (fun _ _ => rfl)
theorem p219_138 (lv : jmL) (st : List jmV) (w : jmW) : rn 219 (138, lv, st, w) = rn 219 (141, lv, .inl (236) :: st, w) := q_sipush (jd_of jb_219 dX9_dancer_138) (by decide +kernel)
theorem p219_141 (lv : jmL) (st : List jmV) (w : jmW) : rn 219 (141, lv, st, w) = jq_ldi 219 142 lv st w (jg lv 1) := q_iload_n (jd_of jb_219 dX9_dancer_141) rfl
theorem p219_142 (lv : jmL) (st : List jmV) (w : jmW) (x y : Int) : rn 219 (142, lv, .inl y :: .inl x :: st, w) = rn 219 (143, lv, .inl (x + y) :: st, w) := q_iadd (jd_of jb_219 dX9_dancer_142)
theorem p219_143 (lv : jmL) (st : List jmV) (w : jmW) (a : Nat) (j : Int) : rn 219 (143, lv, .inl j :: jvr a :: st, w) = jq_gr (mS w a) 0 j 219 144 lv (.inl (mI w a (jix j)) :: st) (w) := q_iald (jd_of jb_219 dX9_dancer_143)
theorem p219_144 (lv : jmL) (st : List jmV) (w : jmW) (b : Nat) (x1 : Int) : rn 219 (144, lv, .inl x1 :: jvr b :: st, w) = jq_s (mS w b) (1, 9, 0) (jq_b (decide (jwd st ≤ 8)) (jq_c 219 147 lv st (rn 213 (0, [(0, jvr b), (1, .inl x1)], [], w)))) := q_callv (as := [.inl x1]) (rest := st) (jd_of jb_219 dX9_dancer_144) jo_219 jk_9_64 rfl rfl rfl jo_213 jf_219_213 (Nat.le_of_ble_eq_true rfl)
theorem p219_147 (lv : jmL) (w : jmW) (x : Int) : rn 219 (147, lv, [.inl x], w) = some (some (.inl x), w) := q_ireturn (jd_of jb_219 dX9_dancer_147) jr_219
theorem p219_148 (lv : jmL) (st : List jmV) (w : jmW) : rn 219 (148, lv, st, w) = jq_lda 219 149 lv st w (jg lv 0) := q_aload_n (jd_of jb_219 dX9_dancer_148) rfl
theorem p219_149 (lv : jmL) (st : List jmV) (w : jmW) : rn 219 (149, lv, st, w) = jq_lda 219 150 lv st w (jg lv 0) := q_aload_n (jd_of jb_219 dX9_dancer_149) rfl
theorem p219_150 (lv : jmL) (st : List jmV) (w : jmW) (a : Nat) : rn 219 (150, lv, jvr a :: st, w) = jq_gs (mS w a) (1, 9, 0) 219 153 lv (.inr (.inr (mR w a 18)) :: st) (w) := q_getf (v := fun w a => .inr (.inr (mR w a 18))) (jd_of jb_219 dX9_dancer_150) jo_219 jk_9_21 (fun _ _ => rfl)
theorem p219_153 (lv : jmL) (st : List jmV) (w : jmW) : rn 219 (153, lv, st, w) = rn 219 (156, lv, .inl (252) :: st, w) := q_sipush (jd_of jb_219 dX9_dancer_153) (by decide +kernel)
theorem p219_156 (lv : jmL) (st : List jmV) (w : jmW) : rn 219 (156, lv, st, w) = jq_ldi 219 157 lv st w (jg lv 1) := q_iload_n (jd_of jb_219 dX9_dancer_156) rfl
theorem p219_157 (lv : jmL) (st : List jmV) (w : jmW) (x y : Int) : rn 219 (157, lv, .inl y :: .inl x :: st, w) = rn 219 (158, lv, .inl (x + y) :: st, w) := q_iadd (jd_of jb_219 dX9_dancer_157)
theorem p219_158 (lv : jmL) (st : List jmV) (w : jmW) (a : Nat) (j : Int) : rn 219 (158, lv, .inl j :: jvr a :: st, w) = jq_gr (mS w a) 0 j 219 159 lv (.inl (mI w a (jix j)) :: st) (w) := q_iald (jd_of jb_219 dX9_dancer_158)
theorem p219_159 (lv : jmL) (st : List jmV) (w : jmW) (b : Nat) (x1 : Int) : rn 219 (159, lv, .inl x1 :: jvr b :: st, w) = jq_s (mS w b) (1, 9, 0) (jq_b (decide (jwd st ≤ 8)) (jq_c 219 162 lv st (rn 213 (0, [(0, jvr b), (1, .inl x1)], [], w)))) := q_callv (as := [.inl x1]) (rest := st) (jd_of jb_219 dX9_dancer_159) jo_219 jk_9_64 rfl rfl rfl jo_213 jf_219_213 (Nat.le_of_ble_eq_true rfl)
theorem p219_162 (lv : jmL) (w : jmW) (x : Int) : rn 219 (162, lv, [.inl x], w) = some (some (.inl x), w) := q_ireturn (jd_of jb_219 dX9_dancer_162) jr_219
theorem p219_163 (lv : jmL) (st : List jmV) (w : jmW) : rn 219 (163, lv, st, w) = jq_lda 219 164 lv st w (jg lv 0) := q_aload_n (jd_of jb_219 dX9_dancer_163) rfl
theorem p219_164 (lv : jmL) (st : List jmV) (w : jmW) : rn 219 (164, lv, st, w) = jq_lda 219 165 lv st w (jg lv 0) := q_aload_n (jd_of jb_219 dX9_dancer_164) rfl
theorem p219_165 (lv : jmL) (st : List jmV) (w : jmW) (a : Nat) : rn 219 (165, lv, jvr a :: st, w) = jq_gs (mS w a) (1, 9, 0) 219 168 lv (.inr (.inr (mR w a 18)) :: st) (w) := q_getf (v := fun w a => .inr (.inr (mR w a 18))) (jd_of jb_219 dX9_dancer_165) jo_219 jk_9_21 (fun _ _ => rfl)
theorem p219_168 (lv : jmL) (st : List jmV) (w : jmW) : rn 219 (168, lv, st, w) = rn 219 (171, lv, .inl (268) :: st, w) := q_sipush (jd_of jb_219 dX9_dancer_168) (by decide +kernel)
theorem p219_171 (lv : jmL) (st : List jmV) (w : jmW) : rn 219 (171, lv, st, w) = jq_ldi 219 172 lv st w (jg lv 1) := q_iload_n (jd_of jb_219 dX9_dancer_171) rfl
theorem p219_172 (lv : jmL) (st : List jmV) (w : jmW) (x y : Int) : rn 219 (172, lv, .inl y :: .inl x :: st, w) = rn 219 (173, lv, .inl (x + y) :: st, w) := q_iadd (jd_of jb_219 dX9_dancer_172)
theorem p219_173 (lv : jmL) (st : List jmV) (w : jmW) (a : Nat) (j : Int) : rn 219 (173, lv, .inl j :: jvr a :: st, w) = jq_gr (mS w a) 0 j 219 174 lv (.inl (mI w a (jix j)) :: st) (w) := q_iald (jd_of jb_219 dX9_dancer_173)
theorem p219_174 (lv : jmL) (st : List jmV) (w : jmW) (b : Nat) (x1 : Int) : rn 219 (174, lv, .inl x1 :: jvr b :: st, w) = jq_s (mS w b) (1, 9, 0) (jq_b (decide (jwd st ≤ 8)) (jq_c 219 177 lv st (rn 213 (0, [(0, jvr b), (1, .inl x1)], [], w)))) := q_callv (as := [.inl x1]) (rest := st) (jd_of jb_219 dX9_dancer_174) jo_219 jk_9_64 rfl rfl rfl jo_213 jf_219_213 (Nat.le_of_ble_eq_true rfl)
theorem p219_177 (lv : jmL) (w : jmW) (x : Int) : rn 219 (177, lv, [.inl x], w) = some (some (.inl x), w) := q_ireturn (jd_of jb_219 dX9_dancer_177) jr_219
theorem p220_0 (lv : jmL) (st : List jmV) (w : jmW) : rn 220 (0, lv, st, w) = jq_lda 220 1 lv st w (jg lv 0) := q_aload_n (jd_of jb_220 dX9_isThere_0) rfl
theorem p220_1 (lv : jmL) (st : List jmV) (w : jmW) (a : Nat) : rn 220 (1, lv, jvr a :: st, w) = jq_gs (mS w a) (1, 9, 0) 220 4 lv (.inr (.inr (mR w a 3)) :: st) (w) := q_getf (v := fun w a => .inr (.inr (mR w a 3))) (jd_of jb_220 dX9_isThere_1) jo_220 jk_9_389 (fun _ _ => rfl)
theorem p220_4n (lv : jmL) (st : List jmV) (w : jmW) : rn 220 (4, lv, .inr (.inr none) :: st, w) = rn 220 (27, lv, st, w) := q_ifnull_n (tgt := 27) (jd_of jb_220 dX9_isThere_4) (by decide)
theorem p220_4s (lv : jmL) (st : List jmV) (w : jmW) (a : Nat) : rn 220 (4, lv, .inr (.inr (some a)) :: st, w) = rn 220 (7, lv, st, w) := q_ifnull_s (tgt := 27) (jd_of jb_220 dX9_isThere_4) (by decide)
theorem p220_7 (lv : jmL) (st : List jmV) (w : jmW) : rn 220 (7, lv, st, w) = jq_ldi 220 8 lv st w (jg lv 1) := q_iload_n (jd_of jb_220 dX9_isThere_7) rfl
theorem p220_8 (lv : jmL) (st : List jmV) (w : jmW) (x : Int) : rn 220 (8, lv, .inl x :: st, w) = if jw x < 0 then rn 220 (27, lv, st, w) else rn 220 (11, lv, st, w) := q_if_lt (jd_of jb_220 dX9_isThere_8) (by decide)
theorem p220_11 (lv : jmL) (st : List jmV) (w : jmW) : rn 220 (11, lv, st, w) = jq_ldi 220 12 lv st w (jg lv 1) := q_iload_n (jd_of jb_220 dX9_isThere_11) rfl
theorem p220_12 (lv : jmL) (st : List jmV) (w : jmW) : rn 220 (12, lv, st, w) = jq_lda 220 13 lv st w (jg lv 0) := q_aload_n (jd_of jb_220 dX9_isThere_12) rfl
theorem p220_13 (lv : jmL) (st : List jmV) (w : jmW) (a : Nat) : rn 220 (13, lv, jvr a :: st, w) = jq_gs (mS w a) (1, 9, 0) 220 16 lv (.inr (.inr (mR w a 18)) :: st) (w) := q_getf (v := fun w a => .inr (.inr (mR w a 18))) (jd_of jb_220 dX9_isThere_13) jo_220 jk_9_21 (fun _ _ => rfl)
theorem p220_16 (lv : jmL) (st : List jmV) (w : jmW) : rn 220 (16, lv, st, w) = rn 220 (19, lv, .inl (289) :: st, w) := q_sipush (jd_of jb_220 dX9_isThere_16) (by decide +kernel)
theorem p220_19 (lv : jmL) (st : List jmV) (w : jmW) (a : Nat) (j : Int) : rn 220 (19, lv, .inl j :: jvr a :: st, w) = jq_gr (mS w a) 0 j 220 20 lv (.inl (mI w a (jix j)) :: st) (w) := q_iald (jd_of jb_220 dX9_isThere_19)
theorem p220_20 (lv : jmL) (st : List jmV) (w : jmW) (x y : Int) : rn 220 (20, lv, .inl y :: .inl x :: st, w) = if jw x < jw y then rn 220 (23, lv, st, w) else rn 220 (27, lv, st, w) := q_icmp_ge (jd_of jb_220 dX9_isThere_20) (by decide)
theorem p220_23 (lv : jmL) (st : List jmV) (w : jmW) : rn 220 (23, lv, st, w) = rn 220 (24, lv, .inl (1) :: st, w) := q_iconst (jd_of jb_220 dX9_isThere_23)
theorem p220_24 (lv : jmL) (st : List jmV) (w : jmW) : rn 220 (24, lv, st, w) = rn 220 (28, lv, st, w) := q_goto (jd_of jb_220 dX9_isThere_24) (by decide)
theorem p220_27 (lv : jmL) (st : List jmV) (w : jmW) : rn 220 (27, lv, st, w) = rn 220 (28, lv, .inl (0) :: st, w) := q_iconst (jd_of jb_220 dX9_isThere_27)
theorem p220_28 (lv : jmL) (w : jmW) (x : Int) : rn 220 (28, lv, [.inl x], w) = jq_b (decide (x = 0 ∨ x = 1)) (some (some (.inl x), w)) := q_zreturn (jd_of jb_220 dX9_isThere_28) jr_220
theorem p221_0 (lv : jmL) (st : List jmV) (w : jmW) : rn 221 (0, lv, st, w) = jq_lda 221 1 lv st w (jg lv 0) := q_aload_n (jd_of jb_221 dX9_cellOf_0) rfl
theorem p221_1 (lv : jmL) (st : List jmV) (w : jmW) : rn 221 (1, lv, st, w) = rn 221 (2, lv, .inl (0) :: st, w) := q_iconst (jd_of jb_221 dX9_cellOf_1)
theorem p221_2 (lv : jmL) (st : List jmV) (w : jmW) : rn 221 (2, lv, st, w) = jq_lda 221 3 lv st w (jg lv 0) := q_aload_n (jd_of jb_221 dX9_cellOf_2) rfl
theorem p221_3 (lv : jmL) (st : List jmV) (w : jmW) : rn 221 (3, lv, st, w) = rn 221 (6, lv, .inl (220) :: st, w) := q_sipush (jd_of jb_221 dX9_cellOf_3) (by decide +kernel)
theorem p221_6 (lv : jmL) (st : List jmV) (w : jmW) : rn 221 (6, lv, st, w) = jq_ldi 221 7 lv st w (jg lv 1) := q_iload_n (jd_of jb_221 dX9_cellOf_6) rfl
theorem p221_7 (lv : jmL) (st : List jmV) (w : jmW) (x y : Int) : rn 221 (7, lv, .inl y :: .inl x :: st, w) = rn 221 (8, lv, .inl (x + y) :: st, w) := q_iadd (jd_of jb_221 dX9_cellOf_7)
theorem p221_8 (lv : jmL) (st : List jmV) (w : jmW) (a : Nat) (j : Int) : rn 221 (8, lv, .inl j :: jvr a :: st, w) = jq_gr (mS w a) 0 j 221 9 lv (.inl (mI w a (jix j)) :: st) (w) := q_iald (jd_of jb_221 dX9_cellOf_8)
theorem p221_9 (lv : jmL) (st : List jmV) (w : jmW) (x y : Int) : rn 221 (9, lv, .inl y :: .inl x :: st, w) = rn 221 (10, lv, .inl (x + y) :: st, w) := q_iadd (jd_of jb_221 dX9_cellOf_9)
theorem p221_10 (lv : jmL) (st : List jmV) (w : jmW) (a : Nat) (j : Int) : rn 221 (10, lv, .inl j :: jvr a :: st, w) = jq_gr (mS w a) 0 j 221 11 lv (.inl (mI w a (jix j)) :: st) (w) := q_iald (jd_of jb_221 dX9_cellOf_10)
theorem p221_11 (lv : jmL) (w : jmW) (x : Int) : rn 221 (11, lv, [.inl x], w) = some (some (.inl x), w) := q_ireturn (jd_of jb_221 dX9_cellOf_11) jr_221
theorem p222_0 (lv : jmL) (st : List jmV) (w : jmW) : rn 222 (0, lv, st, w) = jq_lda 222 1 lv st w (jg lv 0) := q_aload_n (jd_of jb_222 dX9_gapOf_0) rfl
theorem p222_1 (lv : jmL) (st : List jmV) (w : jmW) : rn 222 (1, lv, st, w) = rn 222 (4, lv, .inl (220) :: st, w) := q_sipush (jd_of jb_222 dX9_gapOf_1) (by decide +kernel)
theorem p222_4 (lv : jmL) (st : List jmV) (w : jmW) : rn 222 (4, lv, st, w) = jq_ldi 222 5 lv st w (jg lv 1) := q_iload_n (jd_of jb_222 dX9_gapOf_4) rfl
theorem p222_5 (lv : jmL) (st : List jmV) (w : jmW) (x y : Int) : rn 222 (5, lv, .inl y :: .inl x :: st, w) = rn 222 (6, lv, .inl (x + y) :: st, w) := q_iadd (jd_of jb_222 dX9_gapOf_5)
theorem p222_6 (lv : jmL) (st : List jmV) (w : jmW) : rn 222 (6, lv, st, w) = rn 222 (7, lv, .inl (1) :: st, w) := q_iconst (jd_of jb_222 dX9_gapOf_6)
theorem p222_7 (lv : jmL) (st : List jmV) (w : jmW) (x y : Int) : rn 222 (7, lv, .inl y :: .inl x :: st, w) = rn 222 (8, lv, .inl (x - y) :: st, w) := q_isub (jd_of jb_222 dX9_gapOf_7)
theorem p222_8 (lv : jmL) (st : List jmV) (w : jmW) (a : Nat) (j : Int) : rn 222 (8, lv, .inl j :: jvr a :: st, w) = jq_gr (mS w a) 0 j 222 9 lv (.inl (mI w a (jix j)) :: st) (w) := q_iald (jd_of jb_222 dX9_gapOf_8)
theorem p222_9 (lv : jmL) (st : List jmV) (w : jmW) : rn 222 (9, lv, st, w) = jq_lda 222 10 lv st w (jg lv 0) := q_aload_n (jd_of jb_222 dX9_gapOf_9) rfl
theorem p222_10 (lv : jmL) (st : List jmV) (w : jmW) : rn 222 (10, lv, st, w) = rn 222 (13, lv, .inl (220) :: st, w) := q_sipush (jd_of jb_222 dX9_gapOf_10) (by decide +kernel)
theorem p222_13 (lv : jmL) (st : List jmV) (w : jmW) : rn 222 (13, lv, st, w) = jq_ldi 222 14 lv st w (jg lv 1) := q_iload_n (jd_of jb_222 dX9_gapOf_13) rfl
theorem p222_14 (lv : jmL) (st : List jmV) (w : jmW) (x y : Int) : rn 222 (14, lv, .inl y :: .inl x :: st, w) = rn 222 (15, lv, .inl (x + y) :: st, w) := q_iadd (jd_of jb_222 dX9_gapOf_14)
theorem p222_15 (lv : jmL) (st : List jmV) (w : jmW) (a : Nat) (j : Int) : rn 222 (15, lv, .inl j :: jvr a :: st, w) = jq_gr (mS w a) 0 j 222 16 lv (.inl (mI w a (jix j)) :: st) (w) := q_iald (jd_of jb_222 dX9_gapOf_15)
theorem p222_16 (lv : jmL) (st : List jmV) (w : jmW) (x y : Int) : rn 222 (16, lv, .inl y :: .inl x :: st, w) = rn 222 (17, lv, .inl (x - y) :: st, w) := q_isub (jd_of jb_222 dX9_gapOf_16)
theorem p222_17 (lv : jmL) (st : List jmV) (w : jmW) : rn 222 (17, lv, st, w) = rn 222 (18, lv, .inl (1) :: st, w) := q_iconst (jd_of jb_222 dX9_gapOf_17)
theorem p222_18 (lv : jmL) (st : List jmV) (w : jmW) (x y : Int) : rn 222 (18, lv, .inl y :: .inl x :: st, w) = rn 222 (19, lv, .inl (x - y) :: st, w) := q_isub (jd_of jb_222 dX9_gapOf_18)
theorem p222_19 (lv : jmL) (w : jmW) (x : Int) : rn 222 (19, lv, [.inl x], w) = some (some (.inl x), w) := q_ireturn (jd_of jb_222 dX9_gapOf_19) jr_222
theorem p223_0 (lv : jmL) (st : List jmV) (w : jmW) : rn 223 (0, lv, st, w) = jq_lda 223 1 lv st w (jg lv 0) := q_aload_n (jd_of jb_223 dX9_stands_0) rfl
theorem p223_1 (lv : jmL) (st : List jmV) (w : jmW) : rn 223 (1, lv, st, w) = rn 223 (2, lv, .inl (0) :: st, w) := q_iconst (jd_of jb_223 dX9_stands_1)
theorem p223_2 (lv : jmL) (st : List jmV) (w : jmW) (a : Nat) (x : Int) : rn 223 (2, lv, .inl x :: jvr a :: st, w) = jq_gs (mS w a) (1, 9, 0) 223 5 lv (st) (setI w a 0 x) := q_putf (jd_of jb_223 dX9_stands_2) jo_223 jk_9_54 (Or.inl rfl) rfl
theorem p223_5 (lv : jmL) (st : List jmV) (w : jmW) : rn 223 (5, lv, st, w) = jq_lda 223 6 lv st w (jg lv 0) := q_aload_n (jd_of jb_223 dX9_stands_5) rfl
theorem p223_6 (lv : jmL) (st : List jmV) (w : jmW) : rn 223 (6, lv, st, w) = jq_ldi 223 7 lv st w (jg lv 1) := q_iload_n (jd_of jb_223 dX9_stands_6) rfl
theorem p223_7 (lv : jmL) (st : List jmV) (w : jmW) : rn 223 (7, lv, st, w) = jq_ldi 223 8 lv st w (jg lv 2) := q_iload_n (jd_of jb_223 dX9_stands_7) rfl
theorem p223_8 (lv : jmL) (st : List jmV) (w : jmW) (b : Nat) (x1 : Int) (x2 : Int) : rn 223 (8, lv, .inl x2 :: .inl x1 :: jvr b :: st, w) = jq_s (mS w b) (1, 9, 0) (jq_b (decide (jwd st ≤ 8)) (jq_c 223 11 lv st (rn 217 (0, [(0, jvr b), (1, .inl x1), (2, .inl x2)], [], w)))) := q_callv (as := [.inl x1, .inl x2]) (rest := st) (jd_of jb_223 dX9_stands_8) jo_223 jk_9_508 rfl rfl rfl jo_217 jf_223_217 (Nat.le_of_ble_eq_true rfl)
theorem p223_11 (lv : jmL) (st : List jmV) (w : jmW) (x : Int) : rn 223 (11, lv, .inl x :: st, w) = if jw x = 0 then rn 223 (14, lv, st, w) else rn 223 (20, lv, st, w) := q_if_ne (jd_of jb_223 dX9_stands_11) (by decide)
theorem p223_14 (lv : jmL) (st : List jmV) (w : jmW) : rn 223 (14, lv, st, w) = jq_lda 223 15 lv st w (jg lv 0) := q_aload_n (jd_of jb_223 dX9_stands_14) rfl
theorem p223_15 (lv : jmL) (st : List jmV) (w : jmW) : rn 223 (15, lv, st, w) = rn 223 (16, lv, .inl (1) :: st, w) := q_iconst (jd_of jb_223 dX9_stands_15)
theorem p223_16 (lv : jmL) (st : List jmV) (w : jmW) (b : Nat) (x1 : Int) : rn 223 (16, lv, .inl x1 :: jvr b :: st, w) = jq_s (mS w b) (1, 9, 0) (jq_b (decide (jwd st ≤ 8)) (jq_c 223 19 lv st (rn 176 (0, [(0, jvr b), (1, .inl x1)], [], w)))) := q_callv (as := [.inl x1]) (rest := st) (jd_of jb_223 dX9_stands_16) jo_223 jk_9_60 rfl rfl rfl jo_176 jf_223_176 (Nat.le_of_ble_eq_true rfl)
theorem p223_19 (lv : jmL) (w : jmW) (x : Int) : rn 223 (19, lv, [.inl x], w) = some (some (.inl x), w) := q_ireturn (jd_of jb_223 dX9_stands_19) jr_223
theorem p223_20 (lv : jmL) (st : List jmV) (w : jmW) : rn 223 (20, lv, st, w) = rn 223 (21, lv, .inl (0) :: st, w) := q_iconst (jd_of jb_223 dX9_stands_20)
theorem p223_21 (lv : jmL) (st : List jmV) (w : jmW) (x : Int) : rn 223 (21, lv, .inl x :: st, w) = rn 223 (22, js lv 3 (.inl x), st, w) := q_istore_n (jd_of jb_223 dX9_stands_21) rfl (by rw [jm_223]; decide)
theorem p223_22 (lv : jmL) (st : List jmV) (w : jmW) : rn 223 (22, lv, st, w) = jq_ldi 223 23 lv st w (jg lv 3) := q_iload_n (jd_of jb_223 dX9_stands_22) rfl
theorem p223_23 (lv : jmL) (st : List jmV) (w : jmW) : rn 223 (23, lv, st, w) = jq_lda 223 24 lv st w (jg lv 0) := q_aload_n (jd_of jb_223 dX9_stands_23) rfl
theorem p223_24 (lv : jmL) (st : List jmV) (w : jmW) (a : Nat) : rn 223 (24, lv, jvr a :: st, w) = jq_gs (mS w a) (1, 9, 0) 223 27 lv (.inr (.inr (mR w a 18)) :: st) (w) := q_getf (v := fun w a => .inr (.inr (mR w a 18))) (jd_of jb_223 dX9_stands_24) jo_223 jk_9_21 (fun _ _ => rfl)
theorem p223_27 (lv : jmL) (st : List jmV) (w : jmW) : rn 223 (27, lv, st, w) = rn 223 (30, lv, .inl (289) :: st, w) := q_sipush (jd_of jb_223 dX9_stands_27) (by decide +kernel)
theorem p223_30 (lv : jmL) (st : List jmV) (w : jmW) (a : Nat) (j : Int) : rn 223 (30, lv, .inl j :: jvr a :: st, w) = jq_gr (mS w a) 0 j 223 31 lv (.inl (mI w a (jix j)) :: st) (w) := q_iald (jd_of jb_223 dX9_stands_30)
theorem p223_31 (lv : jmL) (st : List jmV) (w : jmW) (x y : Int) : rn 223 (31, lv, .inl y :: .inl x :: st, w) = if jw x < jw y then rn 223 (34, lv, st, w) else rn 223 (77, lv, st, w) := q_icmp_ge (jd_of jb_223 dX9_stands_31) (by decide)
theorem p223_34 (lv : jmL) (st : List jmV) (w : jmW) : rn 223 (34, lv, st, w) = jq_lda 223 35 lv st w (jg lv 0) := q_aload_n (jd_of jb_223 dX9_stands_34) rfl
theorem p223_35 (lv : jmL) (st : List jmV) (w : jmW) (a : Nat) : rn 223 (35, lv, jvr a :: st, w) = jq_gs (mS w a) (1, 9, 0) 223 38 lv (.inr (.inr (mR w a 18)) :: st) (w) := q_getf (v := fun w a => .inr (.inr (mR w a 18))) (jd_of jb_223 dX9_stands_35) jo_223 jk_9_21 (fun _ _ => rfl)
theorem p223_38 (lv : jmL) (st : List jmV) (w : jmW) : rn 223 (38, lv, st, w) = jq_ldi 223 39 lv st w (jg lv 3) := q_iload_n (jd_of jb_223 dX9_stands_38) rfl
theorem p223_39 (lv : jmL) (st : List jmV) (w : jmW) (x1 : Option Nat) (x2 : Int) : rn 223 (39, lv, .inl x2 :: .inr (.inr x1) :: st, w) = jq_b (decide (jwd st ≤ 8)) (jq_c 223 42 lv st (rn 221 (0, [(0, .inr (.inr x1)), (1, .inl x2)], [], w))) := q_calls (as := [.inr (.inr x1), .inl x2]) (rest := st) (jd_of jb_223 dX9_stands_39) jo_223 jk_9_409 rfl rfl rfl jf_223_221 (Nat.le_of_ble_eq_true rfl)
theorem p223_42 (lv : jmL) (st : List jmV) (w : jmW) : rn 223 (42, lv, st, w) = jq_lda 223 43 lv st w (jg lv 0) := q_aload_n (jd_of jb_223 dX9_stands_42) rfl
theorem p223_43 (lv : jmL) (st : List jmV) (w : jmW) (a : Nat) : rn 223 (43, lv, jvr a :: st, w) = jq_gs (mS w a) (1, 9, 0) 223 46 lv (.inr (.inr (mR w a 3)) :: st) (w) := q_getf (v := fun w a => .inr (.inr (mR w a 3))) (jd_of jb_223 dX9_stands_43) jo_223 jk_9_389 (fun _ _ => rfl)
theorem p223_46 (lv : jmL) (st : List jmV) (w : jmW) (a : Nat) : rn 223 (46, lv, jvr a :: st, w) = jq_gs (mS w a) (1, 8, 0) 223 49 lv (.inl (mI w a 0) :: st) (w) := q_getf (v := fun w a => .inl (mI w a 0)) (jd_of jb_223 dX9_stands_46) jo_223 jk_9_154 (fun _ _ => rfl)
theorem p223_49 (lv : jmL) (st : List jmV) (w : jmW) : rn 223 (49, lv, st, w) = jq_ldi 223 50 lv st w (jg lv 2) := q_iload_n (jd_of jb_223 dX9_stands_49) rfl
theorem p223_50 (lv : jmL) (st : List jmV) (w : jmW) (x y : Int) : rn 223 (50, lv, .inl y :: .inl x :: st, w) = rn 223 (51, lv, .inl (x * y) :: st, w) := q_imul (jd_of jb_223 dX9_stands_50)
theorem p223_51 (lv : jmL) (st : List jmV) (w : jmW) : rn 223 (51, lv, st, w) = jq_ldi 223 52 lv st w (jg lv 1) := q_iload_n (jd_of jb_223 dX9_stands_51) rfl
theorem p223_52 (lv : jmL) (st : List jmV) (w : jmW) (x y : Int) : rn 223 (52, lv, .inl y :: .inl x :: st, w) = rn 223 (53, lv, .inl (x + y) :: st, w) := q_iadd (jd_of jb_223 dX9_stands_52)
theorem p223_53 (lv : jmL) (st : List jmV) (w : jmW) (x y : Int) : rn 223 (53, lv, .inl y :: .inl x :: st, w) = if jw x = jw y then rn 223 (56, lv, st, w) else rn 223 (71, lv, st, w) := q_icmp_ne (jd_of jb_223 dX9_stands_53) (by decide)
theorem p223_56 (lv : jmL) (st : List jmV) (w : jmW) : rn 223 (56, lv, st, w) = jq_lda 223 57 lv st w (jg lv 0) := q_aload_n (jd_of jb_223 dX9_stands_56) rfl
theorem p223_57 (lv : jmL) (st : List jmV) (w : jmW) : rn 223 (57, lv, st, w) = jq_lda 223 58 lv st w (jg lv 0) := q_aload_n (jd_of jb_223 dX9_stands_57) rfl
theorem p223_58 (lv : jmL) (st : List jmV) (w : jmW) (a : Nat) : rn 223 (58, lv, jvr a :: st, w) = jq_gs (mS w a) (1, 9, 0) 223 61 lv (.inr (.inr (mR w a 18)) :: st) (w) := q_getf (v := fun w a => .inr (.inr (mR w a 18))) (jd_of jb_223 dX9_stands_58) jo_223 jk_9_21 (fun _ _ => rfl)
theorem p223_61 (lv : jmL) (st : List jmV) (w : jmW) : rn 223 (61, lv, st, w) = rn 223 (64, lv, .inl (204) :: st, w) := q_sipush (jd_of jb_223 dX9_stands_61) (by decide +kernel)
theorem p223_64 (lv : jmL) (st : List jmV) (w : jmW) : rn 223 (64, lv, st, w) = jq_ldi 223 65 lv st w (jg lv 3) := q_iload_n (jd_of jb_223 dX9_stands_64) rfl
theorem p223_65 (lv : jmL) (st : List jmV) (w : jmW) (x y : Int) : rn 223 (65, lv, .inl y :: .inl x :: st, w) = rn 223 (66, lv, .inl (x + y) :: st, w) := q_iadd (jd_of jb_223 dX9_stands_65)
theorem p223_66 (lv : jmL) (st : List jmV) (w : jmW) (a : Nat) (j : Int) : rn 223 (66, lv, .inl j :: jvr a :: st, w) = jq_gr (mS w a) 0 j 223 67 lv (.inl (mI w a (jix j)) :: st) (w) := q_iald (jd_of jb_223 dX9_stands_66)
theorem p223_67 (lv : jmL) (st : List jmV) (w : jmW) (b : Nat) (x1 : Int) : rn 223 (67, lv, .inl x1 :: jvr b :: st, w) = jq_s (mS w b) (1, 9, 0) (jq_b (decide (jwd st ≤ 8)) (jq_c 223 70 lv st (rn 213 (0, [(0, jvr b), (1, .inl x1)], [], w)))) := q_callv (as := [.inl x1]) (rest := st) (jd_of jb_223 dX9_stands_67) jo_223 jk_9_64 rfl rfl rfl jo_213 jf_223_213 (Nat.le_of_ble_eq_true rfl)
theorem p223_70 (lv : jmL) (w : jmW) (x : Int) : rn 223 (70, lv, [.inl x], w) = some (some (.inl x), w) := q_ireturn (jd_of jb_223 dX9_stands_70) jr_223
theorem p223_71 (lv : jmL) (st : List jmV) (w : jmW) : rn 223 (71, lv, st, w) = jq_inc 223 74 lv 3 (1) st w (jg lv 3) := q_iinc (jd_of jb_223 dX9_stands_71) (by rw [jm_223]; decide)
theorem p223_74 (lv : jmL) (st : List jmV) (w : jmW) : rn 223 (74, lv, st, w) = rn 223 (22, lv, st, w) := q_goto (jd_of jb_223 dX9_stands_74) (by decide)
theorem p223_77 (lv : jmL) (st : List jmV) (w : jmW) : rn 223 (77, lv, st, w) = jq_lda 223 78 lv st w (jg lv 0) := q_aload_n (jd_of jb_223 dX9_stands_77) rfl
theorem p223_78 (lv : jmL) (st : List jmV) (w : jmW) : rn 223 (78, lv, st, w) = rn 223 (80, lv, .inl (-2) :: st, w) := q_bipush (jd_of jb_223 dX9_stands_78) (by decide +kernel)
theorem p223_80 (lv : jmL) (st : List jmV) (w : jmW) (b : Nat) (x1 : Int) : rn 223 (80, lv, .inl x1 :: jvr b :: st, w) = jq_s (mS w b) (1, 9, 0) (jq_b (decide (jwd st ≤ 8)) (jq_c 223 83 lv st (rn 213 (0, [(0, jvr b), (1, .inl x1)], [], w)))) := q_callv (as := [.inl x1]) (rest := st) (jd_of jb_223 dX9_stands_80) jo_223 jk_9_64 rfl rfl rfl jo_213 jf_223_213 (Nat.le_of_ble_eq_true rfl)
theorem p223_83 (lv : jmL) (w : jmW) (x : Int) : rn 223 (83, lv, [.inl x], w) = some (some (.inl x), w) := q_ireturn (jd_of jb_223 dX9_stands_83) jr_223
theorem p224_0 (lv : jmL) (st : List jmV) (w : jmW) : rn 224 (0, lv, st, w) = jq_lda 224 1 lv st w (jg lv 0) := q_aload_n (jd_of jb_224 dX9_way_0) rfl
theorem p224_1 (lv : jmL) (st : List jmV) (w : jmW) : rn 224 (1, lv, st, w) = rn 224 (2, lv, .inl (0) :: st, w) := q_iconst (jd_of jb_224 dX9_way_1)
theorem p224_2 (lv : jmL) (st : List jmV) (w : jmW) (a : Nat) (x : Int) : rn 224 (2, lv, .inl x :: jvr a :: st, w) = jq_gs (mS w a) (1, 9, 0) 224 5 lv (st) (setI w a 0 x) := q_putf (jd_of jb_224 dX9_way_2) jo_224 jk_9_54 (Or.inl rfl) rfl
theorem p224_5 (lv : jmL) (st : List jmV) (w : jmW) : rn 224 (5, lv, st, w) = jq_lda 224 6 lv st w (jg lv 0) := q_aload_n (jd_of jb_224 dX9_way_5) rfl
theorem p224_6 (lv : jmL) (st : List jmV) (w : jmW) (a : Nat) : rn 224 (6, lv, jvr a :: st, w) = jq_gs (mS w a) (1, 9, 0) 224 9 lv (.inr (.inr (mR w a 3)) :: st) (w) := q_getf (v := fun w a => .inr (.inr (mR w a 3))) (jd_of jb_224 dX9_way_6) jo_224 jk_9_389 (fun _ _ => rfl)
theorem p224_9n (lv : jmL) (st : List jmV) (w : jmW) : rn 224 (9, lv, .inr (.inr none) :: st, w) = rn 224 (43, lv, st, w) := q_ifnull_n (tgt := 43) (jd_of jb_224 dX9_way_9) (by decide)
theorem p224_9s (lv : jmL) (st : List jmV) (w : jmW) (a : Nat) : rn 224 (9, lv, .inr (.inr (some a)) :: st, w) = rn 224 (12, lv, st, w) := q_ifnull_s (tgt := 43) (jd_of jb_224 dX9_way_9) (by decide)
theorem p224_12 (lv : jmL) (st : List jmV) (w : jmW) : rn 224 (12, lv, st, w) = jq_ldi 224 13 lv st w (jg lv 1) := q_iload_n (jd_of jb_224 dX9_way_12) rfl
theorem p224_13 (lv : jmL) (st : List jmV) (w : jmW) (x : Int) : rn 224 (13, lv, .inl x :: st, w) = if jw x < 0 then rn 224 (43, lv, st, w) else rn 224 (16, lv, st, w) := q_if_lt (jd_of jb_224 dX9_way_13) (by decide)
theorem p224_16 (lv : jmL) (st : List jmV) (w : jmW) : rn 224 (16, lv, st, w) = jq_ldi 224 17 lv st w (jg lv 1) := q_iload_n (jd_of jb_224 dX9_way_16) rfl
theorem p224_17 (lv : jmL) (st : List jmV) (w : jmW) : rn 224 (17, lv, st, w) = jq_lda 224 18 lv st w (jg lv 0) := q_aload_n (jd_of jb_224 dX9_way_17) rfl
theorem p224_18 (lv : jmL) (st : List jmV) (w : jmW) (a : Nat) : rn 224 (18, lv, jvr a :: st, w) = jq_gs (mS w a) (1, 9, 0) 224 21 lv (.inr (.inr (mR w a 18)) :: st) (w) := q_getf (v := fun w a => .inr (.inr (mR w a 18))) (jd_of jb_224 dX9_way_18) jo_224 jk_9_21 (fun _ _ => rfl)
theorem p224_21 (lv : jmL) (st : List jmV) (w : jmW) : rn 224 (21, lv, st, w) = rn 224 (24, lv, .inl (288) :: st, w) := q_sipush (jd_of jb_224 dX9_way_21) (by decide +kernel)
theorem p224_24 (lv : jmL) (st : List jmV) (w : jmW) (a : Nat) (j : Int) : rn 224 (24, lv, .inl j :: jvr a :: st, w) = jq_gr (mS w a) 0 j 224 25 lv (.inl (mI w a (jix j)) :: st) (w) := q_iald (jd_of jb_224 dX9_way_24)
theorem p224_25 (lv : jmL) (st : List jmV) (w : jmW) (x y : Int) : rn 224 (25, lv, .inl y :: .inl x :: st, w) = if jw x < jw y then rn 224 (28, lv, st, w) else rn 224 (43, lv, st, w) := q_icmp_ge (jd_of jb_224 dX9_way_25) (by decide)
theorem p224_28 (lv : jmL) (st : List jmV) (w : jmW) : rn 224 (28, lv, st, w) = jq_lda 224 29 lv st w (jg lv 0) := q_aload_n (jd_of jb_224 dX9_way_28) rfl
theorem p224_29 (lv : jmL) (st : List jmV) (w : jmW) : rn 224 (29, lv, st, w) = jq_lda 224 30 lv st w (jg lv 0) := q_aload_n (jd_of jb_224 dX9_way_29) rfl
theorem p224_30 (lv : jmL) (st : List jmV) (w : jmW) (a : Nat) : rn 224 (30, lv, jvr a :: st, w) = jq_gs (mS w a) (1, 9, 0) 224 33 lv (.inr (.inr (mR w a 18)) :: st) (w) := q_getf (v := fun w a => .inr (.inr (mR w a 18))) (jd_of jb_224 dX9_way_30) jo_224 jk_9_21 (fun _ _ => rfl)
theorem p224_33 (lv : jmL) (st : List jmV) (w : jmW) : rn 224 (33, lv, st, w) = rn 224 (34, lv, .inl (0) :: st, w) := q_iconst (jd_of jb_224 dX9_way_33)
theorem p224_34 (lv : jmL) (st : List jmV) (w : jmW) : rn 224 (34, lv, st, w) = jq_ldi 224 35 lv st w (jg lv 1) := q_iload_n (jd_of jb_224 dX9_way_34) rfl
theorem p224_35 (lv : jmL) (st : List jmV) (w : jmW) (x y : Int) : rn 224 (35, lv, .inl y :: .inl x :: st, w) = rn 224 (36, lv, .inl (x + y) :: st, w) := q_iadd (jd_of jb_224 dX9_way_35)
theorem p224_36 (lv : jmL) (st : List jmV) (w : jmW) (a : Nat) (j : Int) : rn 224 (36, lv, .inl j :: jvr a :: st, w) = jq_gr (mS w a) 0 j 224 37 lv (.inl (mI w a (jix j)) :: st) (w) := q_iald (jd_of jb_224 dX9_way_36)
theorem p224_37 (lv : jmL) (st : List jmV) (w : jmW) (b : Nat) (x1 : Int) : rn 224 (37, lv, .inl x1 :: jvr b :: st, w) = jq_s (mS w b) (1, 9, 0) (jq_b (decide (jwd st ≤ 8)) (jq_c 224 40 lv st (rn 213 (0, [(0, jvr b), (1, .inl x1)], [], w)))) := q_callv (as := [.inl x1]) (rest := st) (jd_of jb_224 dX9_way_37) jo_224 jk_9_64 rfl rfl rfl jo_213 jf_224_213 (Nat.le_of_ble_eq_true rfl)
theorem p224_40 (lv : jmL) (st : List jmV) (w : jmW) : rn 224 (40, lv, st, w) = rn 224 (48, lv, st, w) := q_goto (jd_of jb_224 dX9_way_40) (by decide)
theorem p224_43 (lv : jmL) (st : List jmV) (w : jmW) : rn 224 (43, lv, st, w) = jq_lda 224 44 lv st w (jg lv 0) := q_aload_n (jd_of jb_224 dX9_way_43) rfl
theorem p224_44 (lv : jmL) (st : List jmV) (w : jmW) : rn 224 (44, lv, st, w) = rn 224 (45, lv, .inl (1) :: st, w) := q_iconst (jd_of jb_224 dX9_way_44)
theorem p224_45 (lv : jmL) (st : List jmV) (w : jmW) (b : Nat) (x1 : Int) : rn 224 (45, lv, .inl x1 :: jvr b :: st, w) = jq_s (mS w b) (1, 9, 0) (jq_b (decide (jwd st ≤ 8)) (jq_c 224 48 lv st (rn 176 (0, [(0, jvr b), (1, .inl x1)], [], w)))) := q_callv (as := [.inl x1]) (rest := st) (jd_of jb_224 dX9_way_45) jo_224 jk_9_60 rfl rfl rfl jo_176 jf_224_176 (Nat.le_of_ble_eq_true rfl)
theorem p224_48 (lv : jmL) (w : jmW) (x : Int) : rn 224 (48, lv, [.inl x], w) = some (some (.inl x), w) := q_ireturn (jd_of jb_224 dX9_way_48) jr_224
theorem p225_0 (lv : jmL) (st : List jmV) (w : jmW) : rn 225 (0, lv, st, w) = jq_lda 225 1 lv st w (jg lv 0) := q_aload_n (jd_of jb_225 dX9_length_0) rfl
theorem p225_1 (lv : jmL) (st : List jmV) (w : jmW) : rn 225 (1, lv, st, w) = rn 225 (2, lv, .inl (0) :: st, w) := q_iconst (jd_of jb_225 dX9_length_1)
theorem p225_2 (lv : jmL) (st : List jmV) (w : jmW) (a : Nat) (x : Int) : rn 225 (2, lv, .inl x :: jvr a :: st, w) = jq_gs (mS w a) (1, 9, 0) 225 5 lv (st) (setI w a 0 x) := q_putf (jd_of jb_225 dX9_length_2) jo_225 jk_9_54 (Or.inl rfl) rfl
theorem p225_5 (lv : jmL) (st : List jmV) (w : jmW) : rn 225 (5, lv, st, w) = jq_lda 225 6 lv st w (jg lv 0) := q_aload_n (jd_of jb_225 dX9_length_5) rfl
theorem p225_6 (lv : jmL) (st : List jmV) (w : jmW) (a : Nat) : rn 225 (6, lv, jvr a :: st, w) = jq_gs (mS w a) (1, 9, 0) 225 9 lv (.inr (.inr (mR w a 3)) :: st) (w) := q_getf (v := fun w a => .inr (.inr (mR w a 3))) (jd_of jb_225 dX9_length_6) jo_225 jk_9_389 (fun _ _ => rfl)
theorem p225_9n (lv : jmL) (st : List jmV) (w : jmW) : rn 225 (9, lv, .inr (.inr none) :: st, w) = rn 225 (12, lv, st, w) := q_ifnonnull_n (tgt := 20) (jd_of jb_225 dX9_length_9) (by decide)
theorem p225_9s (lv : jmL) (st : List jmV) (w : jmW) (a : Nat) : rn 225 (9, lv, .inr (.inr (some a)) :: st, w) = rn 225 (20, lv, st, w) := q_ifnonnull_s (tgt := 20) (jd_of jb_225 dX9_length_9) (by decide)
theorem p225_12 (lv : jmL) (st : List jmV) (w : jmW) : rn 225 (12, lv, st, w) = jq_lda 225 13 lv st w (jg lv 0) := q_aload_n (jd_of jb_225 dX9_length_12) rfl
theorem p225_13 (lv : jmL) (st : List jmV) (w : jmW) : rn 225 (13, lv, st, w) = rn 225 (14, lv, .inl (1) :: st, w) := q_iconst (jd_of jb_225 dX9_length_13)
theorem p225_14 (lv : jmL) (st : List jmV) (w : jmW) (b : Nat) (x1 : Int) : rn 225 (14, lv, .inl x1 :: jvr b :: st, w) = jq_s (mS w b) (1, 9, 0) (jq_b (decide (jwd st ≤ 8)) (jq_c 225 17 lv st (rn 176 (0, [(0, jvr b), (1, .inl x1)], [], w)))) := q_callv (as := [.inl x1]) (rest := st) (jd_of jb_225 dX9_length_14) jo_225 jk_9_60 rfl rfl rfl jo_176 jf_225_176 (Nat.le_of_ble_eq_true rfl)
theorem p225_17 (lv : jmL) (st : List jmV) (w : jmW) : rn 225 (17, lv, st, w) = rn 225 (32, lv, st, w) := q_goto (jd_of jb_225 dX9_length_17) (by decide)
theorem p225_20 (lv : jmL) (st : List jmV) (w : jmW) : rn 225 (20, lv, st, w) = jq_lda 225 21 lv st w (jg lv 0) := q_aload_n (jd_of jb_225 dX9_length_20) rfl
theorem p225_21 (lv : jmL) (st : List jmV) (w : jmW) : rn 225 (21, lv, st, w) = jq_lda 225 22 lv st w (jg lv 0) := q_aload_n (jd_of jb_225 dX9_length_21) rfl
theorem p225_22 (lv : jmL) (st : List jmV) (w : jmW) (a : Nat) : rn 225 (22, lv, jvr a :: st, w) = jq_gs (mS w a) (1, 9, 0) 225 25 lv (.inr (.inr (mR w a 18)) :: st) (w) := q_getf (v := fun w a => .inr (.inr (mR w a 18))) (jd_of jb_225 dX9_length_22) jo_225 jk_9_21 (fun _ _ => rfl)
theorem p225_25 (lv : jmL) (st : List jmV) (w : jmW) : rn 225 (25, lv, st, w) = rn 225 (28, lv, .inl (288) :: st, w) := q_sipush (jd_of jb_225 dX9_length_25) (by decide +kernel)
theorem p225_28 (lv : jmL) (st : List jmV) (w : jmW) (a : Nat) (j : Int) : rn 225 (28, lv, .inl j :: jvr a :: st, w) = jq_gr (mS w a) 0 j 225 29 lv (.inl (mI w a (jix j)) :: st) (w) := q_iald (jd_of jb_225 dX9_length_28)
theorem p225_29 (lv : jmL) (st : List jmV) (w : jmW) (b : Nat) (x1 : Int) : rn 225 (29, lv, .inl x1 :: jvr b :: st, w) = jq_s (mS w b) (1, 9, 0) (jq_b (decide (jwd st ≤ 8)) (jq_c 225 32 lv st (rn 213 (0, [(0, jvr b), (1, .inl x1)], [], w)))) := q_callv (as := [.inl x1]) (rest := st) (jd_of jb_225 dX9_length_29) jo_225 jk_9_64 rfl rfl rfl jo_213 jf_225_213 (Nat.le_of_ble_eq_true rfl)
theorem p225_32 (lv : jmL) (w : jmW) (x : Int) : rn 225 (32, lv, [.inl x], w) = some (some (.inl x), w) := q_ireturn (jd_of jb_225 dX9_length_32) jr_225
theorem p226_0 (lv : jmL) (st : List jmV) (w : jmW) : rn 226 (0, lv, st, w) = jq_lda 226 1 lv st w (jg lv 0) := q_aload_n (jd_of jb_226 dX9_corners_0) rfl
theorem p226_1 (lv : jmL) (st : List jmV) (w : jmW) : rn 226 (1, lv, st, w) = rn 226 (2, lv, .inl (0) :: st, w) := q_iconst (jd_of jb_226 dX9_corners_1)
theorem p226_2 (lv : jmL) (st : List jmV) (w : jmW) (a : Nat) (x : Int) : rn 226 (2, lv, .inl x :: jvr a :: st, w) = jq_gs (mS w a) (1, 9, 0) 226 5 lv (st) (setI w a 0 x) := q_putf (jd_of jb_226 dX9_corners_2) jo_226 jk_9_54 (Or.inl rfl) rfl
theorem p226_5 (lv : jmL) (st : List jmV) (w : jmW) : rn 226 (5, lv, st, w) = jq_lda 226 6 lv st w (jg lv 0) := q_aload_n (jd_of jb_226 dX9_corners_5) rfl
theorem p226_6 (lv : jmL) (st : List jmV) (w : jmW) (a : Nat) : rn 226 (6, lv, jvr a :: st, w) = jq_gs (mS w a) (1, 9, 0) 226 9 lv (.inr (.inr (mR w a 3)) :: st) (w) := q_getf (v := fun w a => .inr (.inr (mR w a 3))) (jd_of jb_226 dX9_corners_6) jo_226 jk_9_389 (fun _ _ => rfl)
theorem p226_9n (lv : jmL) (st : List jmV) (w : jmW) : rn 226 (9, lv, .inr (.inr none) :: st, w) = rn 226 (12, lv, st, w) := q_ifnonnull_n (tgt := 18) (jd_of jb_226 dX9_corners_9) (by decide)
theorem p226_9s (lv : jmL) (st : List jmV) (w : jmW) (a : Nat) : rn 226 (9, lv, .inr (.inr (some a)) :: st, w) = rn 226 (18, lv, st, w) := q_ifnonnull_s (tgt := 18) (jd_of jb_226 dX9_corners_9) (by decide)
theorem p226_12 (lv : jmL) (st : List jmV) (w : jmW) : rn 226 (12, lv, st, w) = jq_lda 226 13 lv st w (jg lv 0) := q_aload_n (jd_of jb_226 dX9_corners_12) rfl
theorem p226_13 (lv : jmL) (st : List jmV) (w : jmW) : rn 226 (13, lv, st, w) = rn 226 (14, lv, .inl (1) :: st, w) := q_iconst (jd_of jb_226 dX9_corners_13)
theorem p226_14 (lv : jmL) (st : List jmV) (w : jmW) (b : Nat) (x1 : Int) : rn 226 (14, lv, .inl x1 :: jvr b :: st, w) = jq_s (mS w b) (1, 9, 0) (jq_b (decide (jwd st ≤ 8)) (jq_c 226 17 lv st (rn 176 (0, [(0, jvr b), (1, .inl x1)], [], w)))) := q_callv (as := [.inl x1]) (rest := st) (jd_of jb_226 dX9_corners_14) jo_226 jk_9_60 rfl rfl rfl jo_176 jf_226_176 (Nat.le_of_ble_eq_true rfl)
theorem p226_17 (lv : jmL) (w : jmW) (x : Int) : rn 226 (17, lv, [.inl x], w) = some (some (.inl x), w) := q_ireturn (jd_of jb_226 dX9_corners_17) jr_226
theorem p226_18 (lv : jmL) (st : List jmV) (w : jmW) : rn 226 (18, lv, st, w) = rn 226 (19, lv, .inl (0) :: st, w) := q_iconst (jd_of jb_226 dX9_corners_18)
theorem p226_19 (lv : jmL) (st : List jmV) (w : jmW) (x : Int) : rn 226 (19, lv, .inl x :: st, w) = rn 226 (20, js lv 1 (.inl x), st, w) := q_istore_n (jd_of jb_226 dX9_corners_19) rfl (by rw [jm_226]; decide)
theorem p226_20 (lv : jmL) (st : List jmV) (w : jmW) : rn 226 (20, lv, st, w) = jq_lda 226 21 lv st w (jg lv 0) := q_aload_n (jd_of jb_226 dX9_corners_20) rfl
theorem p226_21 (lv : jmL) (st : List jmV) (w : jmW) (a : Nat) : rn 226 (21, lv, jvr a :: st, w) = jq_gs (mS w a) (1, 9, 0) 226 24 lv (.inr (.inr (mR w a 18)) :: st) (w) := q_getf (v := fun w a => .inr (.inr (mR w a 18))) (jd_of jb_226 dX9_corners_21) jo_226 jk_9_21 (fun _ _ => rfl)
theorem p226_24 (lv : jmL) (st : List jmV) (w : jmW) : rn 226 (24, lv, st, w) = rn 226 (27, lv, .inl (220) :: st, w) := q_sipush (jd_of jb_226 dX9_corners_24) (by decide +kernel)
theorem p226_27 (lv : jmL) (st : List jmV) (w : jmW) : rn 226 (27, lv, st, w) = jq_lda 226 28 lv st w (jg lv 0) := q_aload_n (jd_of jb_226 dX9_corners_27) rfl
theorem p226_28 (lv : jmL) (st : List jmV) (w : jmW) (a : Nat) : rn 226 (28, lv, jvr a :: st, w) = jq_gs (mS w a) (1, 9, 0) 226 31 lv (.inr (.inr (mR w a 18)) :: st) (w) := q_getf (v := fun w a => .inr (.inr (mR w a 18))) (jd_of jb_226 dX9_corners_28) jo_226 jk_9_21 (fun _ _ => rfl)
theorem p226_31 (lv : jmL) (st : List jmV) (w : jmW) : rn 226 (31, lv, st, w) = rn 226 (34, lv, .inl (289) :: st, w) := q_sipush (jd_of jb_226 dX9_corners_31) (by decide +kernel)
theorem p226_34 (lv : jmL) (st : List jmV) (w : jmW) (a : Nat) (j : Int) : rn 226 (34, lv, .inl j :: jvr a :: st, w) = jq_gr (mS w a) 0 j 226 35 lv (.inl (mI w a (jix j)) :: st) (w) := q_iald (jd_of jb_226 dX9_corners_34)
theorem p226_35 (lv : jmL) (st : List jmV) (w : jmW) (x y : Int) : rn 226 (35, lv, .inl y :: .inl x :: st, w) = rn 226 (36, lv, .inl (x + y) :: st, w) := q_iadd (jd_of jb_226 dX9_corners_35)
theorem p226_36 (lv : jmL) (st : List jmV) (w : jmW) : rn 226 (36, lv, st, w) = rn 226 (37, lv, .inl (1) :: st, w) := q_iconst (jd_of jb_226 dX9_corners_36)
theorem p226_37 (lv : jmL) (st : List jmV) (w : jmW) (x y : Int) : rn 226 (37, lv, .inl y :: .inl x :: st, w) = rn 226 (38, lv, .inl (x - y) :: st, w) := q_isub (jd_of jb_226 dX9_corners_37)
theorem p226_38 (lv : jmL) (st : List jmV) (w : jmW) (a : Nat) (j : Int) : rn 226 (38, lv, .inl j :: jvr a :: st, w) = jq_gr (mS w a) 0 j 226 39 lv (.inl (mI w a (jix j)) :: st) (w) := q_iald (jd_of jb_226 dX9_corners_38)
theorem p226_39 (lv : jmL) (st : List jmV) (w : jmW) : rn 226 (39, lv, st, w) = rn 226 (40, lv, .inl (1) :: st, w) := q_iconst (jd_of jb_226 dX9_corners_39)
theorem p226_40 (lv : jmL) (st : List jmV) (w : jmW) (x y : Int) : rn 226 (40, lv, .inl y :: .inl x :: st, w) = rn 226 (41, lv, .inl (x + y) :: st, w) := q_iadd (jd_of jb_226 dX9_corners_40)
theorem p226_41 (lv : jmL) (st : List jmV) (w : jmW) (x : Int) : rn 226 (41, lv, .inl x :: st, w) = rn 226 (42, js lv 2 (.inl x), st, w) := q_istore_n (jd_of jb_226 dX9_corners_41) rfl (by rw [jm_226]; decide)
theorem p226_42 (lv : jmL) (st : List jmV) (w : jmW) : rn 226 (42, lv, st, w) = jq_ldi 226 43 lv st w (jg lv 2) := q_iload_n (jd_of jb_226 dX9_corners_42) rfl
theorem p226_43 (lv : jmL) (st : List jmV) (w : jmW) : rn 226 (43, lv, st, w) = jq_lda 226 44 lv st w (jg lv 0) := q_aload_n (jd_of jb_226 dX9_corners_43) rfl
theorem p226_44 (lv : jmL) (st : List jmV) (w : jmW) (a : Nat) : rn 226 (44, lv, jvr a :: st, w) = jq_gs (mS w a) (1, 9, 0) 226 47 lv (.inr (.inr (mR w a 18)) :: st) (w) := q_getf (v := fun w a => .inr (.inr (mR w a 18))) (jd_of jb_226 dX9_corners_44) jo_226 jk_9_21 (fun _ _ => rfl)
theorem p226_47 (lv : jmL) (st : List jmV) (w : jmW) : rn 226 (47, lv, st, w) = rn 226 (50, lv, .inl (220) :: st, w) := q_sipush (jd_of jb_226 dX9_corners_47) (by decide +kernel)
theorem p226_50 (lv : jmL) (st : List jmV) (w : jmW) (a : Nat) (j : Int) : rn 226 (50, lv, .inl j :: jvr a :: st, w) = jq_gr (mS w a) 0 j 226 51 lv (.inl (mI w a (jix j)) :: st) (w) := q_iald (jd_of jb_226 dX9_corners_50)
theorem p226_51 (lv : jmL) (st : List jmV) (w : jmW) (x y : Int) : rn 226 (51, lv, .inl y :: .inl x :: st, w) = if jw x < jw y then rn 226 (54, lv, st, w) else rn 226 (80, lv, st, w) := q_icmp_ge (jd_of jb_226 dX9_corners_51) (by decide)
theorem p226_54 (lv : jmL) (st : List jmV) (w : jmW) : rn 226 (54, lv, st, w) = jq_ldi 226 55 lv st w (jg lv 1) := q_iload_n (jd_of jb_226 dX9_corners_54) rfl
theorem p226_55 (lv : jmL) (st : List jmV) (w : jmW) : rn 226 (55, lv, st, w) = jq_lda 226 56 lv st w (jg lv 0) := q_aload_n (jd_of jb_226 dX9_corners_55) rfl
theorem p226_56 (lv : jmL) (st : List jmV) (w : jmW) : rn 226 (56, lv, st, w) = jq_lda 226 57 lv st w (jg lv 0) := q_aload_n (jd_of jb_226 dX9_corners_56) rfl
theorem p226_57 (lv : jmL) (st : List jmV) (w : jmW) (a : Nat) : rn 226 (57, lv, jvr a :: st, w) = jq_gs (mS w a) (1, 9, 0) 226 60 lv (.inr (.inr (mR w a 18)) :: st) (w) := q_getf (v := fun w a => .inr (.inr (mR w a 18))) (jd_of jb_226 dX9_corners_57) jo_226 jk_9_21 (fun _ _ => rfl)
theorem p226_60 (lv : jmL) (st : List jmV) (w : jmW) : rn 226 (60, lv, st, w) = jq_ldi 226 61 lv st w (jg lv 2) := q_iload_n (jd_of jb_226 dX9_corners_60) rfl
theorem p226_61 (lv : jmL) (st : List jmV) (w : jmW) (b : Nat) (x1 : Option Nat) (x2 : Int) : rn 226 (61, lv, .inl x2 :: .inr (.inr x1) :: jvr b :: st, w) = jq_s (mS w b) (1, 9, 0) (jq_b (decide (jwd st ≤ 8)) (jq_c 226 64 lv st (rn 227 (0, [(0, jvr b), (1, .inr (.inr x1)), (2, .inl x2)], [], w)))) := q_callv (as := [.inr (.inr x1), .inl x2]) (rest := st) (jd_of jb_226 dX9_corners_61) jo_226 jk_9_451 rfl rfl rfl jo_227 jf_226_227 (Nat.le_of_ble_eq_true rfl)
theorem p226_64 (lv : jmL) (st : List jmV) (w : jmW) (x : Int) : rn 226 (64, lv, .inl x :: st, w) = if jw x = 0 then rn 226 (71, lv, st, w) else rn 226 (67, lv, st, w) := q_if_eq (jd_of jb_226 dX9_corners_64) (by decide)
theorem p226_67 (lv : jmL) (st : List jmV) (w : jmW) : rn 226 (67, lv, st, w) = rn 226 (68, lv, .inl (1) :: st, w) := q_iconst (jd_of jb_226 dX9_corners_67)
theorem p226_68 (lv : jmL) (st : List jmV) (w : jmW) : rn 226 (68, lv, st, w) = rn 226 (72, lv, st, w) := q_goto (jd_of jb_226 dX9_corners_68) (by decide)
theorem p226_71 (lv : jmL) (st : List jmV) (w : jmW) : rn 226 (71, lv, st, w) = rn 226 (72, lv, .inl (0) :: st, w) := q_iconst (jd_of jb_226 dX9_corners_71)
theorem p226_72 (lv : jmL) (st : List jmV) (w : jmW) (x y : Int) : rn 226 (72, lv, .inl y :: .inl x :: st, w) = rn 226 (73, lv, .inl (x + y) :: st, w) := q_iadd (jd_of jb_226 dX9_corners_72)
theorem p226_73 (lv : jmL) (st : List jmV) (w : jmW) (x : Int) : rn 226 (73, lv, .inl x :: st, w) = rn 226 (74, js lv 1 (.inl x), st, w) := q_istore_n (jd_of jb_226 dX9_corners_73) rfl (by rw [jm_226]; decide)
theorem p226_74 (lv : jmL) (st : List jmV) (w : jmW) : rn 226 (74, lv, st, w) = jq_inc 226 77 lv 2 (1) st w (jg lv 2) := q_iinc (jd_of jb_226 dX9_corners_74) (by rw [jm_226]; decide)
theorem p226_77 (lv : jmL) (st : List jmV) (w : jmW) : rn 226 (77, lv, st, w) = rn 226 (42, lv, st, w) := q_goto (jd_of jb_226 dX9_corners_77) (by decide)
theorem p226_80 (lv : jmL) (st : List jmV) (w : jmW) : rn 226 (80, lv, st, w) = jq_lda 226 81 lv st w (jg lv 0) := q_aload_n (jd_of jb_226 dX9_corners_80) rfl
theorem p226_81 (lv : jmL) (st : List jmV) (w : jmW) : rn 226 (81, lv, st, w) = jq_ldi 226 82 lv st w (jg lv 1) := q_iload_n (jd_of jb_226 dX9_corners_81) rfl
theorem p226_82 (lv : jmL) (st : List jmV) (w : jmW) (b : Nat) (x1 : Int) : rn 226 (82, lv, .inl x1 :: jvr b :: st, w) = jq_s (mS w b) (1, 9, 0) (jq_b (decide (jwd st ≤ 8)) (jq_c 226 85 lv st (rn 213 (0, [(0, jvr b), (1, .inl x1)], [], w)))) := q_callv (as := [.inl x1]) (rest := st) (jd_of jb_226 dX9_corners_82) jo_226 jk_9_64 rfl rfl rfl jo_213 jf_226_213 (Nat.le_of_ble_eq_true rfl)
theorem p226_85 (lv : jmL) (w : jmW) (x : Int) : rn 226 (85, lv, [.inl x], w) = some (some (.inl x), w) := q_ireturn (jd_of jb_226 dX9_corners_85) jr_226
theorem p227_0 (lv : jmL) (st : List jmV) (w : jmW) : rn 227 (0, lv, st, w) = jq_ldi 227 1 lv st w (jg lv 2) := q_iload_n (jd_of jb_227 dX9_turnsAt_0) rfl
theorem p227_1 (lv : jmL) (st : List jmV) (w : jmW) (x : Int) : rn 227 (1, lv, .inl x :: st, w) = if 0 < jw x then rn 227 (4, lv, st, w) else rn 227 (36, lv, st, w) := q_if_le (jd_of jb_227 dX9_turnsAt_1) (by decide)
theorem p227_4 (lv : jmL) (st : List jmV) (w : jmW) : rn 227 (4, lv, st, w) = jq_ldi 227 5 lv st w (jg lv 2) := q_iload_n (jd_of jb_227 dX9_turnsAt_4) rfl
theorem p227_5 (lv : jmL) (st : List jmV) (w : jmW) : rn 227 (5, lv, st, w) = rn 227 (6, lv, .inl (1) :: st, w) := q_iconst (jd_of jb_227 dX9_turnsAt_5)
theorem p227_6 (lv : jmL) (st : List jmV) (w : jmW) (x y : Int) : rn 227 (6, lv, .inl y :: .inl x :: st, w) = rn 227 (7, lv, .inl (x + y) :: st, w) := q_iadd (jd_of jb_227 dX9_turnsAt_6)
theorem p227_7 (lv : jmL) (st : List jmV) (w : jmW) : rn 227 (7, lv, st, w) = jq_lda 227 8 lv st w (jg lv 1) := q_aload_n (jd_of jb_227 dX9_turnsAt_7) rfl
theorem p227_8 (lv : jmL) (st : List jmV) (w : jmW) : rn 227 (8, lv, st, w) = rn 227 (11, lv, .inl (288) :: st, w) := q_sipush (jd_of jb_227 dX9_turnsAt_8) (by decide +kernel)
theorem p227_11 (lv : jmL) (st : List jmV) (w : jmW) (a : Nat) (j : Int) : rn 227 (11, lv, .inl j :: jvr a :: st, w) = jq_gr (mS w a) 0 j 227 12 lv (.inl (mI w a (jix j)) :: st) (w) := q_iald (jd_of jb_227 dX9_turnsAt_11)
theorem p227_12 (lv : jmL) (st : List jmV) (w : jmW) (x y : Int) : rn 227 (12, lv, .inl y :: .inl x :: st, w) = if jw x < jw y then rn 227 (15, lv, st, w) else rn 227 (36, lv, st, w) := q_icmp_ge (jd_of jb_227 dX9_turnsAt_12) (by decide)
theorem p227_15 (lv : jmL) (st : List jmV) (w : jmW) : rn 227 (15, lv, st, w) = jq_lda 227 16 lv st w (jg lv 0) := q_aload_n (jd_of jb_227 dX9_turnsAt_15) rfl
theorem p227_16 (lv : jmL) (st : List jmV) (w : jmW) : rn 227 (16, lv, st, w) = jq_lda 227 17 lv st w (jg lv 1) := q_aload_n (jd_of jb_227 dX9_turnsAt_16) rfl
theorem p227_17 (lv : jmL) (st : List jmV) (w : jmW) : rn 227 (17, lv, st, w) = jq_ldi 227 18 lv st w (jg lv 2) := q_iload_n (jd_of jb_227 dX9_turnsAt_17) rfl
theorem p227_18 (lv : jmL) (st : List jmV) (w : jmW) : rn 227 (18, lv, st, w) = rn 227 (19, lv, .inl (1) :: st, w) := q_iconst (jd_of jb_227 dX9_turnsAt_18)
theorem p227_19 (lv : jmL) (st : List jmV) (w : jmW) (x y : Int) : rn 227 (19, lv, .inl y :: .inl x :: st, w) = rn 227 (20, lv, .inl (x - y) :: st, w) := q_isub (jd_of jb_227 dX9_turnsAt_19)
theorem p227_20 (lv : jmL) (st : List jmV) (w : jmW) (b : Nat) (x1 : Option Nat) (x2 : Int) : rn 227 (20, lv, .inl x2 :: .inr (.inr x1) :: jvr b :: st, w) = jq_s (mS w b) (1, 9, 0) (jq_b (decide (jwd st ≤ 8)) (jq_c 227 23 lv st (rn 228 (0, [(0, jvr b), (1, .inr (.inr x1)), (2, .inl x2)], [], w)))) := q_callv (as := [.inr (.inr x1), .inl x2]) (rest := st) (jd_of jb_227 dX9_turnsAt_20) jo_227 jk_9_401 rfl rfl rfl jo_228 jf_227_228 (Nat.le_of_ble_eq_true rfl)
theorem p227_23 (lv : jmL) (st : List jmV) (w : jmW) : rn 227 (23, lv, st, w) = jq_lda 227 24 lv st w (jg lv 0) := q_aload_n (jd_of jb_227 dX9_turnsAt_23) rfl
theorem p227_24 (lv : jmL) (st : List jmV) (w : jmW) : rn 227 (24, lv, st, w) = jq_lda 227 25 lv st w (jg lv 1) := q_aload_n (jd_of jb_227 dX9_turnsAt_24) rfl
theorem p227_25 (lv : jmL) (st : List jmV) (w : jmW) : rn 227 (25, lv, st, w) = jq_ldi 227 26 lv st w (jg lv 2) := q_iload_n (jd_of jb_227 dX9_turnsAt_25) rfl
theorem p227_26 (lv : jmL) (st : List jmV) (w : jmW) (b : Nat) (x1 : Option Nat) (x2 : Int) : rn 227 (26, lv, .inl x2 :: .inr (.inr x1) :: jvr b :: st, w) = jq_s (mS w b) (1, 9, 0) (jq_b (decide (jwd st ≤ 8)) (jq_c 227 29 lv st (rn 228 (0, [(0, jvr b), (1, .inr (.inr x1)), (2, .inl x2)], [], w)))) := q_callv (as := [.inr (.inr x1), .inl x2]) (rest := st) (jd_of jb_227 dX9_turnsAt_26) jo_227 jk_9_401 rfl rfl rfl jo_228 jf_227_228 (Nat.le_of_ble_eq_true rfl)
theorem p227_29 (lv : jmL) (st : List jmV) (w : jmW) (x y : Int) : rn 227 (29, lv, .inl y :: .inl x :: st, w) = if jw x = jw y then rn 227 (36, lv, st, w) else rn 227 (32, lv, st, w) := q_icmp_eq (jd_of jb_227 dX9_turnsAt_29) (by decide)
theorem p227_32 (lv : jmL) (st : List jmV) (w : jmW) : rn 227 (32, lv, st, w) = rn 227 (33, lv, .inl (1) :: st, w) := q_iconst (jd_of jb_227 dX9_turnsAt_32)
theorem p227_33 (lv : jmL) (st : List jmV) (w : jmW) : rn 227 (33, lv, st, w) = rn 227 (37, lv, st, w) := q_goto (jd_of jb_227 dX9_turnsAt_33) (by decide)
theorem p227_36 (lv : jmL) (st : List jmV) (w : jmW) : rn 227 (36, lv, st, w) = rn 227 (37, lv, .inl (0) :: st, w) := q_iconst (jd_of jb_227 dX9_turnsAt_36)
theorem p227_37 (lv : jmL) (w : jmW) (x : Int) : rn 227 (37, lv, [.inl x], w) = jq_b (decide (x = 0 ∨ x = 1)) (some (some (.inl x), w)) := q_zreturn (jd_of jb_227 dX9_turnsAt_37) jr_227
theorem p228_0 (lv : jmL) (st : List jmV) (w : jmW) : rn 228 (0, lv, st, w) = rn 228 (1, lv, .inl (0) :: st, w) := q_iconst (jd_of jb_228 dX9_sideFrom_0)
theorem p228_1 (lv : jmL) (st : List jmV) (w : jmW) (x : Int) : rn 228 (1, lv, .inl x :: st, w) = rn 228 (2, js lv 3 (.inl x), st, w) := q_istore_n (jd_of jb_228 dX9_sideFrom_1) rfl (by rw [jm_228]; decide)
theorem p228_2 (lv : jmL) (st : List jmV) (w : jmW) : rn 228 (2, lv, st, w) = jq_lda 228 3 lv st w (jg lv 0) := q_aload_n (jd_of jb_228 dX9_sideFrom_2) rfl
theorem p228_3 (lv : jmL) (st : List jmV) (w : jmW) (a : Nat) : rn 228 (3, lv, jvr a :: st, w) = jq_gs (mS w a) (1, 9, 0) 228 6 lv (.inr (.inr (mR w a 3)) :: st) (w) := q_getf (v := fun w a => .inr (.inr (mR w a 3))) (jd_of jb_228 dX9_sideFrom_3) jo_228 jk_9_389 (fun _ _ => rfl)
theorem p228_6 (lv : jmL) (st : List jmV) (w : jmW) : rn 228 (6, lv, st, w) = jq_lda 228 7 lv st w (jg lv 1) := q_aload_n (jd_of jb_228 dX9_sideFrom_6) rfl
theorem p228_7 (lv : jmL) (st : List jmV) (w : jmW) : rn 228 (7, lv, st, w) = rn 228 (8, lv, .inl (0) :: st, w) := q_iconst (jd_of jb_228 dX9_sideFrom_7)
theorem p228_8 (lv : jmL) (st : List jmV) (w : jmW) : rn 228 (8, lv, st, w) = jq_ldi 228 9 lv st w (jg lv 2) := q_iload_n (jd_of jb_228 dX9_sideFrom_8) rfl
theorem p228_9 (lv : jmL) (st : List jmV) (w : jmW) (x y : Int) : rn 228 (9, lv, .inl y :: .inl x :: st, w) = rn 228 (10, lv, .inl (x + y) :: st, w) := q_iadd (jd_of jb_228 dX9_sideFrom_9)
theorem p228_10 (lv : jmL) (st : List jmV) (w : jmW) (a : Nat) (j : Int) : rn 228 (10, lv, .inl j :: jvr a :: st, w) = jq_gr (mS w a) 0 j 228 11 lv (.inl (mI w a (jix j)) :: st) (w) := q_iald (jd_of jb_228 dX9_sideFrom_10)
theorem p228_11 (lv : jmL) (st : List jmV) (w : jmW) : rn 228 (11, lv, st, w) = jq_ldi 228 12 lv st w (jg lv 3) := q_iload_n (jd_of jb_228 dX9_sideFrom_11) rfl
theorem p228_12 (lv : jmL) (st : List jmV) (w : jmW) (b : Nat) (x1 : Int) (x2 : Int) : rn 228 (12, lv, .inl x2 :: .inl x1 :: jvr b :: st, w) = jq_s (mS w b) (1, 8, 0) (jq_b (decide (jwd st ≤ 8)) (jq_c 228 15 lv st (rn 209 (0, [(0, jvr b), (1, .inl x1), (2, .inl x2)], [], w)))) := q_callv (as := [.inl x1, .inl x2]) (rest := st) (jd_of jb_228 dX9_sideFrom_12) jo_228 jk_9_364 rfl rfl rfl jo_209 jf_228_209 (Nat.le_of_ble_eq_true rfl)
theorem p228_15 (lv : jmL) (st : List jmV) (w : jmW) : rn 228 (15, lv, st, w) = jq_lda 228 16 lv st w (jg lv 1) := q_aload_n (jd_of jb_228 dX9_sideFrom_15) rfl
theorem p228_16 (lv : jmL) (st : List jmV) (w : jmW) : rn 228 (16, lv, st, w) = rn 228 (17, lv, .inl (0) :: st, w) := q_iconst (jd_of jb_228 dX9_sideFrom_16)
theorem p228_17 (lv : jmL) (st : List jmV) (w : jmW) : rn 228 (17, lv, st, w) = jq_ldi 228 18 lv st w (jg lv 2) := q_iload_n (jd_of jb_228 dX9_sideFrom_17) rfl
theorem p228_18 (lv : jmL) (st : List jmV) (w : jmW) (x y : Int) : rn 228 (18, lv, .inl y :: .inl x :: st, w) = rn 228 (19, lv, .inl (x + y) :: st, w) := q_iadd (jd_of jb_228 dX9_sideFrom_18)
theorem p228_19 (lv : jmL) (st : List jmV) (w : jmW) : rn 228 (19, lv, st, w) = rn 228 (20, lv, .inl (1) :: st, w) := q_iconst (jd_of jb_228 dX9_sideFrom_19)
theorem p228_20 (lv : jmL) (st : List jmV) (w : jmW) (x y : Int) : rn 228 (20, lv, .inl y :: .inl x :: st, w) = rn 228 (21, lv, .inl (x + y) :: st, w) := q_iadd (jd_of jb_228 dX9_sideFrom_20)
theorem p228_21 (lv : jmL) (st : List jmV) (w : jmW) (a : Nat) (j : Int) : rn 228 (21, lv, .inl j :: jvr a :: st, w) = jq_gr (mS w a) 0 j 228 22 lv (.inl (mI w a (jix j)) :: st) (w) := q_iald (jd_of jb_228 dX9_sideFrom_21)
theorem p228_22 (lv : jmL) (st : List jmV) (w : jmW) (x y : Int) : rn 228 (22, lv, .inl y :: .inl x :: st, w) = if jw x = jw y then rn 228 (31, lv, st, w) else rn 228 (25, lv, st, w) := q_icmp_eq (jd_of jb_228 dX9_sideFrom_22) (by decide)
theorem p228_25 (lv : jmL) (st : List jmV) (w : jmW) : rn 228 (25, lv, st, w) = jq_inc 228 28 lv 3 (1) st w (jg lv 3) := q_iinc (jd_of jb_228 dX9_sideFrom_25) (by rw [jm_228]; decide)
theorem p228_28 (lv : jmL) (st : List jmV) (w : jmW) : rn 228 (28, lv, st, w) = rn 228 (2, lv, st, w) := q_goto (jd_of jb_228 dX9_sideFrom_28) (by decide)
theorem p228_31 (lv : jmL) (st : List jmV) (w : jmW) : rn 228 (31, lv, st, w) = jq_ldi 228 32 lv st w (jg lv 3) := q_iload_n (jd_of jb_228 dX9_sideFrom_31) rfl
theorem p228_32 (lv : jmL) (w : jmW) (x : Int) : rn 228 (32, lv, [.inl x], w) = some (some (.inl x), w) := q_ireturn (jd_of jb_228 dX9_sideFrom_32) jr_228
theorem p229_0 (lv : jmL) (st : List jmV) (w : jmW) : rn 229 (0, lv, st, w) = jq_lda 229 1 lv st w (jg lv 0) := q_aload_n (jd_of jb_229 dX9_sits_0) rfl
theorem p229_1 (lv : jmL) (st : List jmV) (w : jmW) : rn 229 (1, lv, st, w) = rn 229 (2, lv, .inl (0) :: st, w) := q_iconst (jd_of jb_229 dX9_sits_1)
theorem p229_2 (lv : jmL) (st : List jmV) (w : jmW) (a : Nat) (x : Int) : rn 229 (2, lv, .inl x :: jvr a :: st, w) = jq_gs (mS w a) (1, 9, 0) 229 5 lv (st) (setI w a 0 x) := q_putf (jd_of jb_229 dX9_sits_2) jo_229 jk_9_54 (Or.inl rfl) rfl
theorem p229_5 (lv : jmL) (st : List jmV) (w : jmW) : rn 229 (5, lv, st, w) = jq_lda 229 6 lv st w (jg lv 0) := q_aload_n (jd_of jb_229 dX9_sits_5) rfl
theorem p229_6 (lv : jmL) (st : List jmV) (w : jmW) : rn 229 (6, lv, st, w) = jq_ldi 229 7 lv st w (jg lv 1) := q_iload_n (jd_of jb_229 dX9_sits_6) rfl
theorem p229_7 (lv : jmL) (st : List jmV) (w : jmW) (b : Nat) (x1 : Int) : rn 229 (7, lv, .inl x1 :: jvr b :: st, w) = jq_s (mS w b) (1, 9, 0) (jq_b (decide (jwd st ≤ 8)) (jq_c 229 10 lv st (rn 230 (0, [(0, jvr b), (1, .inl x1)], [], w)))) := q_callv (as := [.inl x1]) (rest := st) (jd_of jb_229 dX9_sits_7) jo_229 jk_9_514 rfl rfl rfl jo_230 jf_229_230 (Nat.le_of_ble_eq_true rfl)
theorem p229_10 (lv : jmL) (st : List jmV) (w : jmW) (x : Int) : rn 229 (10, lv, .inl x :: st, w) = if jw x = 0 then rn 229 (30, lv, st, w) else rn 229 (13, lv, st, w) := q_if_eq (jd_of jb_229 dX9_sits_10) (by decide)
theorem p229_13 (lv : jmL) (st : List jmV) (w : jmW) : rn 229 (13, lv, st, w) = jq_lda 229 14 lv st w (jg lv 0) := q_aload_n (jd_of jb_229 dX9_sits_13) rfl
theorem p229_14 (lv : jmL) (st : List jmV) (w : jmW) : rn 229 (14, lv, st, w) = jq_lda 229 15 lv st w (jg lv 0) := q_aload_n (jd_of jb_229 dX9_sits_14) rfl
theorem p229_15 (lv : jmL) (st : List jmV) (w : jmW) (a : Nat) : rn 229 (15, lv, jvr a :: st, w) = jq_gs (mS w a) (1, 9, 0) 229 18 lv (.inr (.inr (mR w a 18)) :: st) (w) := q_getf (v := fun w a => .inr (.inr (mR w a 18))) (jd_of jb_229 dX9_sits_15) jo_229 jk_9_21 (fun _ _ => rfl)
theorem p229_18 (lv : jmL) (st : List jmV) (w : jmW) : rn 229 (18, lv, st, w) = rn 229 (21, lv, .inl (284) :: st, w) := q_sipush (jd_of jb_229 dX9_sits_18) (by decide +kernel)
theorem p229_21 (lv : jmL) (st : List jmV) (w : jmW) : rn 229 (21, lv, st, w) = jq_ldi 229 22 lv st w (jg lv 1) := q_iload_n (jd_of jb_229 dX9_sits_21) rfl
theorem p229_22 (lv : jmL) (st : List jmV) (w : jmW) (x y : Int) : rn 229 (22, lv, .inl y :: .inl x :: st, w) = rn 229 (23, lv, .inl (x + y) :: st, w) := q_iadd (jd_of jb_229 dX9_sits_22)
theorem p229_23 (lv : jmL) (st : List jmV) (w : jmW) (a : Nat) (j : Int) : rn 229 (23, lv, .inl j :: jvr a :: st, w) = jq_gr (mS w a) 0 j 229 24 lv (.inl (mI w a (jix j)) :: st) (w) := q_iald (jd_of jb_229 dX9_sits_23)
theorem p229_24 (lv : jmL) (st : List jmV) (w : jmW) (b : Nat) (x1 : Int) : rn 229 (24, lv, .inl x1 :: jvr b :: st, w) = jq_s (mS w b) (1, 9, 0) (jq_b (decide (jwd st ≤ 8)) (jq_c 229 27 lv st (rn 213 (0, [(0, jvr b), (1, .inl x1)], [], w)))) := q_callv (as := [.inl x1]) (rest := st) (jd_of jb_229 dX9_sits_24) jo_229 jk_9_64 rfl rfl rfl jo_213 jf_229_213 (Nat.le_of_ble_eq_true rfl)
theorem p229_27 (lv : jmL) (st : List jmV) (w : jmW) : rn 229 (27, lv, st, w) = rn 229 (35, lv, st, w) := q_goto (jd_of jb_229 dX9_sits_27) (by decide)
theorem p229_30 (lv : jmL) (st : List jmV) (w : jmW) : rn 229 (30, lv, st, w) = jq_lda 229 31 lv st w (jg lv 0) := q_aload_n (jd_of jb_229 dX9_sits_30) rfl
theorem p229_31 (lv : jmL) (st : List jmV) (w : jmW) : rn 229 (31, lv, st, w) = rn 229 (32, lv, .inl (1) :: st, w) := q_iconst (jd_of jb_229 dX9_sits_31)
theorem p229_32 (lv : jmL) (st : List jmV) (w : jmW) (b : Nat) (x1 : Int) : rn 229 (32, lv, .inl x1 :: jvr b :: st, w) = jq_s (mS w b) (1, 9, 0) (jq_b (decide (jwd st ≤ 8)) (jq_c 229 35 lv st (rn 176 (0, [(0, jvr b), (1, .inl x1)], [], w)))) := q_callv (as := [.inl x1]) (rest := st) (jd_of jb_229 dX9_sits_32) jo_229 jk_9_60 rfl rfl rfl jo_176 jf_229_176 (Nat.le_of_ble_eq_true rfl)
theorem p229_35 (lv : jmL) (w : jmW) (x : Int) : rn 229 (35, lv, [.inl x], w) = some (some (.inl x), w) := q_ireturn (jd_of jb_229 dX9_sits_35) jr_229
theorem p230_0 (lv : jmL) (st : List jmV) (w : jmW) : rn 230 (0, lv, st, w) = jq_lda 230 1 lv st w (jg lv 0) := q_aload_n (jd_of jb_230 dX9_isTable_0) rfl
theorem p230_1 (lv : jmL) (st : List jmV) (w : jmW) (a : Nat) : rn 230 (1, lv, jvr a :: st, w) = jq_gs (mS w a) (1, 9, 0) 230 4 lv (.inr (.inr (mR w a 3)) :: st) (w) := q_getf (v := fun w a => .inr (.inr (mR w a 3))) (jd_of jb_230 dX9_isTable_1) jo_230 jk_9_389 (fun _ _ => rfl)
theorem p230_4n (lv : jmL) (st : List jmV) (w : jmW) : rn 230 (4, lv, .inr (.inr none) :: st, w) = rn 230 (26, lv, st, w) := q_ifnull_n (tgt := 26) (jd_of jb_230 dX9_isTable_4) (by decide)
theorem p230_4s (lv : jmL) (st : List jmV) (w : jmW) (a : Nat) : rn 230 (4, lv, .inr (.inr (some a)) :: st, w) = rn 230 (7, lv, st, w) := q_ifnull_s (tgt := 26) (jd_of jb_230 dX9_isTable_4) (by decide)
theorem p230_7 (lv : jmL) (st : List jmV) (w : jmW) : rn 230 (7, lv, st, w) = jq_ldi 230 8 lv st w (jg lv 1) := q_iload_n (jd_of jb_230 dX9_isTable_7) rfl
theorem p230_8 (lv : jmL) (st : List jmV) (w : jmW) (x : Int) : rn 230 (8, lv, .inl x :: st, w) = if jw x < 0 then rn 230 (26, lv, st, w) else rn 230 (11, lv, st, w) := q_if_lt (jd_of jb_230 dX9_isTable_8) (by decide)
theorem p230_11 (lv : jmL) (st : List jmV) (w : jmW) : rn 230 (11, lv, st, w) = jq_ldi 230 12 lv st w (jg lv 1) := q_iload_n (jd_of jb_230 dX9_isTable_11) rfl
theorem p230_12 (lv : jmL) (st : List jmV) (w : jmW) : rn 230 (12, lv, st, w) = jq_lda 230 13 lv st w (jg lv 0) := q_aload_n (jd_of jb_230 dX9_isTable_12) rfl
theorem p230_13 (lv : jmL) (st : List jmV) (w : jmW) (a : Nat) : rn 230 (13, lv, jvr a :: st, w) = jq_gs (mS w a) (1, 9, 0) 230 16 lv (.inr (.inr (mR w a 3)) :: st) (w) := q_getf (v := fun w a => .inr (.inr (mR w a 3))) (jd_of jb_230 dX9_isTable_13) jo_230 jk_9_389 (fun _ _ => rfl)
theorem p230_16 (lv : jmL) (st : List jmV) (w : jmW) (a : Nat) : rn 230 (16, lv, jvr a :: st, w) = jq_gs (mS w a) (1, 8, 0) 230 19 lv (.inl (mI w a 3) :: st) (w) := q_getf (v := fun w a => .inl (mI w a 3)) (jd_of jb_230 dX9_isTable_16) jo_230 jk_9_311 (fun _ _ => rfl)
theorem p230_19 (lv : jmL) (st : List jmV) (w : jmW) (x y : Int) : rn 230 (19, lv, .inl y :: .inl x :: st, w) = if jw x < jw y then rn 230 (22, lv, st, w) else rn 230 (26, lv, st, w) := q_icmp_ge (jd_of jb_230 dX9_isTable_19) (by decide)
theorem p230_22 (lv : jmL) (st : List jmV) (w : jmW) : rn 230 (22, lv, st, w) = rn 230 (23, lv, .inl (1) :: st, w) := q_iconst (jd_of jb_230 dX9_isTable_22)
theorem p230_23 (lv : jmL) (st : List jmV) (w : jmW) : rn 230 (23, lv, st, w) = rn 230 (27, lv, st, w) := q_goto (jd_of jb_230 dX9_isTable_23) (by decide)
theorem p230_26 (lv : jmL) (st : List jmV) (w : jmW) : rn 230 (26, lv, st, w) = rn 230 (27, lv, .inl (0) :: st, w) := q_iconst (jd_of jb_230 dX9_isTable_26)
theorem p230_27 (lv : jmL) (w : jmW) (x : Int) : rn 230 (27, lv, [.inl x], w) = jq_b (decide (x = 0 ∨ x = 1)) (some (some (.inl x), w)) := q_zreturn (jd_of jb_230 dX9_isTable_27) jr_230
theorem p231_0 (lv : jmL) (st : List jmV) (w : jmW) : rn 231 (0, lv, st, w) = jq_lda 231 1 lv st w (jg lv 0) := q_aload_n (jd_of jb_231 dX9_over_0) rfl
theorem p231_1 (lv : jmL) (st : List jmV) (w : jmW) : rn 231 (1, lv, st, w) = rn 231 (2, lv, .inl (0) :: st, w) := q_iconst (jd_of jb_231 dX9_over_1)
theorem p231_2 (lv : jmL) (st : List jmV) (w : jmW) (a : Nat) (x : Int) : rn 231 (2, lv, .inl x :: jvr a :: st, w) = jq_gs (mS w a) (1, 9, 0) 231 5 lv (st) (setI w a 0 x) := q_putf (jd_of jb_231 dX9_over_2) jo_231 jk_9_54 (Or.inl rfl) rfl
theorem p231_5 (lv : jmL) (st : List jmV) (w : jmW) : rn 231 (5, lv, st, w) = jq_lda 231 6 lv st w (jg lv 0) := q_aload_n (jd_of jb_231 dX9_over_5) rfl
theorem p231_6 (lv : jmL) (st : List jmV) (w : jmW) (a : Nat) : rn 231 (6, lv, jvr a :: st, w) = jq_gs (mS w a) (1, 9, 0) 231 9 lv (.inr (.inr (mR w a 3)) :: st) (w) := q_getf (v := fun w a => .inr (.inr (mR w a 3))) (jd_of jb_231 dX9_over_6) jo_231 jk_9_389 (fun _ _ => rfl)
theorem p231_9n (lv : jmL) (st : List jmV) (w : jmW) : rn 231 (9, lv, .inr (.inr none) :: st, w) = rn 231 (12, lv, st, w) := q_ifnonnull_n (tgt := 20) (jd_of jb_231 dX9_over_9) (by decide)
theorem p231_9s (lv : jmL) (st : List jmV) (w : jmW) (a : Nat) : rn 231 (9, lv, .inr (.inr (some a)) :: st, w) = rn 231 (20, lv, st, w) := q_ifnonnull_s (tgt := 20) (jd_of jb_231 dX9_over_9) (by decide)
theorem p231_12 (lv : jmL) (st : List jmV) (w : jmW) : rn 231 (12, lv, st, w) = jq_lda 231 13 lv st w (jg lv 0) := q_aload_n (jd_of jb_231 dX9_over_12) rfl
theorem p231_13 (lv : jmL) (st : List jmV) (w : jmW) : rn 231 (13, lv, st, w) = rn 231 (14, lv, .inl (1) :: st, w) := q_iconst (jd_of jb_231 dX9_over_13)
theorem p231_14 (lv : jmL) (st : List jmV) (w : jmW) (b : Nat) (x1 : Int) : rn 231 (14, lv, .inl x1 :: jvr b :: st, w) = jq_s (mS w b) (1, 9, 0) (jq_b (decide (jwd st ≤ 8)) (jq_c 231 17 lv st (rn 176 (0, [(0, jvr b), (1, .inl x1)], [], w)))) := q_callv (as := [.inl x1]) (rest := st) (jd_of jb_231 dX9_over_14) jo_231 jk_9_60 rfl rfl rfl jo_176 jf_231_176 (Nat.le_of_ble_eq_true rfl)
theorem p231_17 (lv : jmL) (st : List jmV) (w : jmW) : rn 231 (17, lv, st, w) = rn 231 (31, lv, st, w) := q_goto (jd_of jb_231 dX9_over_17) (by decide)
theorem p231_20 (lv : jmL) (st : List jmV) (w : jmW) : rn 231 (20, lv, st, w) = jq_lda 231 21 lv st w (jg lv 0) := q_aload_n (jd_of jb_231 dX9_over_20) rfl
theorem p231_21 (lv : jmL) (st : List jmV) (w : jmW) : rn 231 (21, lv, st, w) = jq_lda 231 22 lv st w (jg lv 0) := q_aload_n (jd_of jb_231 dX9_over_21) rfl
theorem p231_22 (lv : jmL) (st : List jmV) (w : jmW) (a : Nat) : rn 231 (22, lv, jvr a :: st, w) = jq_gs (mS w a) (1, 9, 0) 231 25 lv (.inr (.inr (mR w a 18)) :: st) (w) := q_getf (v := fun w a => .inr (.inr (mR w a 18))) (jd_of jb_231 dX9_over_22) jo_231 jk_9_21 (fun _ _ => rfl)
theorem p231_25 (lv : jmL) (st : List jmV) (w : jmW) (x1 : Option Nat) : rn 231 (25, lv, .inr (.inr x1) :: st, w) = jq_b (decide (jwd st ≤ 8)) (jq_c 231 28 lv st (rn 232 (0, [(0, .inr (.inr x1))], [], w))) := q_calls (as := [.inr (.inr x1)]) (rest := st) (jd_of jb_231 dX9_over_25) jo_231 jk_9_477 rfl rfl rfl jf_231_232 (Nat.le_of_ble_eq_true rfl)
theorem p231_28 (lv : jmL) (st : List jmV) (w : jmW) (b : Nat) (x1 : Int) : rn 231 (28, lv, .inl x1 :: jvr b :: st, w) = jq_s (mS w b) (1, 9, 0) (jq_b (decide (jwd st ≤ 8)) (jq_c 231 31 lv st (rn 213 (0, [(0, jvr b), (1, .inl x1)], [], w)))) := q_callv (as := [.inl x1]) (rest := st) (jd_of jb_231 dX9_over_28) jo_231 jk_9_64 rfl rfl rfl jo_213 jf_231_213 (Nat.le_of_ble_eq_true rfl)
theorem p231_31 (lv : jmL) (w : jmW) (x : Int) : rn 231 (31, lv, [.inl x], w) = some (some (.inl x), w) := q_ireturn (jd_of jb_231 dX9_over_31) jr_231
theorem p232_0 (lv : jmL) (st : List jmV) (w : jmW) : rn 232 (0, lv, st, w) = jq_lda 232 1 lv st w (jg lv 0) := q_aload_n (jd_of jb_232 dX9_overBy_0) rfl
theorem p232_1 (lv : jmL) (st : List jmV) (w : jmW) : rn 232 (1, lv, st, w) = rn 232 (4, lv, .inl (297) :: st, w) := q_sipush (jd_of jb_232 dX9_overBy_1) (by decide +kernel)
theorem p232_4 (lv : jmL) (st : List jmV) (w : jmW) (a : Nat) (j : Int) : rn 232 (4, lv, .inl j :: jvr a :: st, w) = jq_gr (mS w a) 0 j 232 5 lv (.inl (mI w a (jix j)) :: st) (w) := q_iald (jd_of jb_232 dX9_overBy_4)
theorem p232_5 (lv : jmL) (st : List jmV) (w : jmW) : rn 232 (5, lv, st, w) = rn 232 (6, lv, .inl (1) :: st, w) := q_iconst (jd_of jb_232 dX9_overBy_5)
theorem p232_6 (lv : jmL) (st : List jmV) (w : jmW) (x y : Int) : rn 232 (6, lv, .inl y :: .inl x :: st, w) = if jw x = jw y then rn 232 (9, lv, st, w) else rn 232 (13, lv, st, w) := q_icmp_ne (jd_of jb_232 dX9_overBy_6) (by decide)
theorem p232_9 (lv : jmL) (st : List jmV) (w : jmW) : rn 232 (9, lv, st, w) = rn 232 (10, lv, .inl (1) :: st, w) := q_iconst (jd_of jb_232 dX9_overBy_9)
theorem p232_10 (lv : jmL) (st : List jmV) (w : jmW) : rn 232 (10, lv, st, w) = rn 232 (29, lv, st, w) := q_goto (jd_of jb_232 dX9_overBy_10) (by decide)
theorem p232_13 (lv : jmL) (st : List jmV) (w : jmW) : rn 232 (13, lv, st, w) = jq_lda 232 14 lv st w (jg lv 0) := q_aload_n (jd_of jb_232 dX9_overBy_13) rfl
theorem p232_14 (lv : jmL) (st : List jmV) (w : jmW) : rn 232 (14, lv, st, w) = rn 232 (17, lv, .inl (288) :: st, w) := q_sipush (jd_of jb_232 dX9_overBy_14) (by decide +kernel)
theorem p232_17 (lv : jmL) (st : List jmV) (w : jmW) (a : Nat) (j : Int) : rn 232 (17, lv, .inl j :: jvr a :: st, w) = jq_gr (mS w a) 0 j 232 18 lv (.inl (mI w a (jix j)) :: st) (w) := q_iald (jd_of jb_232 dX9_overBy_17)
theorem p232_18 (lv : jmL) (st : List jmV) (w : jmW) : rn 232 (18, lv, st, w) = rn 232 (21, lv, .inl (200) :: st, w) := q_sipush (jd_of jb_232 dX9_overBy_18) (by decide +kernel)
theorem p232_21 (lv : jmL) (st : List jmV) (w : jmW) (x y : Int) : rn 232 (21, lv, .inl y :: .inl x :: st, w) = if jw y < jw x then rn 232 (24, lv, st, w) else rn 232 (28, lv, st, w) := q_icmp_le (jd_of jb_232 dX9_overBy_21) (by decide)
theorem p232_24 (lv : jmL) (st : List jmV) (w : jmW) : rn 232 (24, lv, st, w) = rn 232 (25, lv, .inl (2) :: st, w) := q_iconst (jd_of jb_232 dX9_overBy_24)
theorem p232_25 (lv : jmL) (st : List jmV) (w : jmW) : rn 232 (25, lv, st, w) = rn 232 (29, lv, st, w) := q_goto (jd_of jb_232 dX9_overBy_25) (by decide)
theorem p232_28 (lv : jmL) (st : List jmV) (w : jmW) : rn 232 (28, lv, st, w) = rn 232 (29, lv, .inl (0) :: st, w) := q_iconst (jd_of jb_232 dX9_overBy_28)
theorem p232_29 (lv : jmL) (w : jmW) (x : Int) : rn 232 (29, lv, [.inl x], w) = some (some (.inl x), w) := q_ireturn (jd_of jb_232 dX9_overBy_29) jr_232
theorem p233_0 (lv : jmL) (st : List jmV) (w : jmW) : rn 233 (0, lv, st, w) = jq_lda 233 1 lv st w (jg lv 0) := q_aload_n (jd_of jb_233 dX9_manyIn_0) rfl
theorem p233_1 (lv : jmL) (st : List jmV) (w : jmW) : rn 233 (1, lv, st, w) = rn 233 (2, lv, .inl (0) :: st, w) := q_iconst (jd_of jb_233 dX9_manyIn_1)
theorem p233_2 (lv : jmL) (st : List jmV) (w : jmW) (a : Nat) (x : Int) : rn 233 (2, lv, .inl x :: jvr a :: st, w) = jq_gs (mS w a) (1, 9, 0) 233 5 lv (st) (setI w a 0 x) := q_putf (jd_of jb_233 dX9_manyIn_2) jo_233 jk_9_54 (Or.inl rfl) rfl
theorem p233_5 (lv : jmL) (st : List jmV) (w : jmW) : rn 233 (5, lv, st, w) = jq_lda 233 6 lv st w (jg lv 0) := q_aload_n (jd_of jb_233 dX9_manyIn_5) rfl
theorem p233_6 (lv : jmL) (st : List jmV) (w : jmW) : rn 233 (6, lv, st, w) = jq_ldi 233 7 lv st w (jg lv 1) := q_iload_n (jd_of jb_233 dX9_manyIn_6) rfl
theorem p233_7 (lv : jmL) (st : List jmV) (w : jmW) (b : Nat) (x1 : Int) : rn 233 (7, lv, .inl x1 :: jvr b :: st, w) = jq_s (mS w b) (1, 9, 0) (jq_b (decide (jwd st ≤ 8)) (jq_c 233 10 lv st (rn 234 (0, [(0, jvr b), (1, .inl x1)], [], w)))) := q_callv (as := [.inl x1]) (rest := st) (jd_of jb_233 dX9_manyIn_7) jo_233 jk_9_517 rfl rfl rfl jo_234 jf_233_234 (Nat.le_of_ble_eq_true rfl)
theorem p233_10 (lv : jmL) (st : List jmV) (w : jmW) (x : Int) : rn 233 (10, lv, .inl x :: st, w) = rn 233 (11, js lv 2 (.inl x), st, w) := q_istore_n (jd_of jb_233 dX9_manyIn_10) rfl (by rw [jm_233]; decide)
theorem p233_11 (lv : jmL) (st : List jmV) (w : jmW) : rn 233 (11, lv, st, w) = jq_ldi 233 12 lv st w (jg lv 2) := q_iload_n (jd_of jb_233 dX9_manyIn_11) rfl
theorem p233_12 (lv : jmL) (st : List jmV) (w : jmW) (x : Int) : rn 233 (12, lv, .inl x :: st, w) = if 0 < jw x then rn 233 (15, lv, st, w) else rn 233 (21, lv, st, w) := q_if_le (jd_of jb_233 dX9_manyIn_12) (by decide)
theorem p233_15 (lv : jmL) (st : List jmV) (w : jmW) : rn 233 (15, lv, st, w) = jq_lda 233 16 lv st w (jg lv 0) := q_aload_n (jd_of jb_233 dX9_manyIn_15) rfl
theorem p233_16 (lv : jmL) (st : List jmV) (w : jmW) : rn 233 (16, lv, st, w) = jq_ldi 233 17 lv st w (jg lv 2) := q_iload_n (jd_of jb_233 dX9_manyIn_16) rfl
theorem p233_17 (lv : jmL) (st : List jmV) (w : jmW) (b : Nat) (x1 : Int) : rn 233 (17, lv, .inl x1 :: jvr b :: st, w) = jq_s (mS w b) (1, 9, 0) (jq_b (decide (jwd st ≤ 8)) (jq_c 233 20 lv st (rn 176 (0, [(0, jvr b), (1, .inl x1)], [], w)))) := q_callv (as := [.inl x1]) (rest := st) (jd_of jb_233 dX9_manyIn_17) jo_233 jk_9_60 rfl rfl rfl jo_176 jf_233_176 (Nat.le_of_ble_eq_true rfl)
theorem p233_20 (lv : jmL) (w : jmW) (x : Int) : rn 233 (20, lv, [.inl x], w) = some (some (.inl x), w) := q_ireturn (jd_of jb_233 dX9_manyIn_20) jr_233
theorem p233_21 (lv : jmL) (st : List jmV) (w : jmW) : rn 233 (21, lv, st, w) = jq_lda 233 22 lv st w (jg lv 0) := q_aload_n (jd_of jb_233 dX9_manyIn_21) rfl
theorem p233_22 (lv : jmL) (st : List jmV) (w : jmW) : rn 233 (22, lv, st, w) = jq_ldi 233 23 lv st w (jg lv 1) := q_iload_n (jd_of jb_233 dX9_manyIn_22) rfl
theorem p233_23 (lv : jmL) (st : List jmV) (w : jmW) (b : Nat) (x1 : Int) : rn 233 (23, lv, .inl x1 :: jvr b :: st, w) = jq_s (mS w b) (1, 9, 0) (jq_b (decide (jwd st ≤ 8)) (jq_c 233 26 lv st (rn 235 (0, [(0, jvr b), (1, .inl x1)], [], w)))) := q_callv (as := [.inl x1]) (rest := st) (jd_of jb_233 dX9_manyIn_23) jo_233 jk_9_520 rfl rfl rfl jo_235 jf_233_235 (Nat.le_of_ble_eq_true rfl)
theorem p233_26 (lv : jmL) (st : List jmV) (w : jmW) : rn 233 (26, lv, st, w) = jq_lda 233 27 lv st w (jg lv 0) := q_aload_n (jd_of jb_233 dX9_manyIn_26) rfl
theorem p233_27 (lv : jmL) (st : List jmV) (w : jmW) : rn 233 (27, lv, st, w) = jq_lda 233 28 lv st w (jg lv 0) := q_aload_n (jd_of jb_233 dX9_manyIn_27) rfl
theorem p233_28 (lv : jmL) (st : List jmV) (w : jmW) (a : Nat) : rn 233 (28, lv, jvr a :: st, w) = jq_gs (mS w a) (1, 9, 0) 233 31 lv (.inr (.inr (mR w a 19)) :: st) (w) := q_getf (v := fun w a => .inr (.inr (mR w a 19))) (jd_of jb_233 dX9_manyIn_28) jo_233 jk_9_24 (fun _ _ => rfl)
theorem p233_31 (lv : jmL) (st : List jmV) (w : jmW) : rn 233 (31, lv, st, w) = rn 233 (34, lv, .inl (289) :: st, w) := q_sipush (jd_of jb_233 dX9_manyIn_31) (by decide +kernel)
theorem p233_34 (lv : jmL) (st : List jmV) (w : jmW) (a : Nat) (j : Int) : rn 233 (34, lv, .inl j :: jvr a :: st, w) = jq_gr (mS w a) 0 j 233 35 lv (.inl (mI w a (jix j)) :: st) (w) := q_iald (jd_of jb_233 dX9_manyIn_34)
theorem p233_35 (lv : jmL) (st : List jmV) (w : jmW) (b : Nat) (x1 : Int) : rn 233 (35, lv, .inl x1 :: jvr b :: st, w) = jq_s (mS w b) (1, 9, 0) (jq_b (decide (jwd st ≤ 8)) (jq_c 233 38 lv st (rn 213 (0, [(0, jvr b), (1, .inl x1)], [], w)))) := q_callv (as := [.inl x1]) (rest := st) (jd_of jb_233 dX9_manyIn_35) jo_233 jk_9_64 rfl rfl rfl jo_213 jf_233_213 (Nat.le_of_ble_eq_true rfl)
theorem p233_38 (lv : jmL) (w : jmW) (x : Int) : rn 233 (38, lv, [.inl x], w) = some (some (.inl x), w) := q_ireturn (jd_of jb_233 dX9_manyIn_38) jr_233
theorem p234_0 (lv : jmL) (st : List jmV) (w : jmW) : rn 234 (0, lv, st, w) = jq_lda 234 1 lv st w (jg lv 0) := q_aload_n (jd_of jb_234 dX9_refusesIn_0) rfl
theorem p234_1 (lv : jmL) (st : List jmV) (w : jmW) (a : Nat) : rn 234 (1, lv, jvr a :: st, w) = jq_gs (mS w a) (1, 9, 0) 234 4 lv (.inr (.inr (mR w a 3)) :: st) (w) := q_getf (v := fun w a => .inr (.inr (mR w a 3))) (jd_of jb_234 dX9_refusesIn_1) jo_234 jk_9_389 (fun _ _ => rfl)
theorem p234_4n (lv : jmL) (st : List jmV) (w : jmW) : rn 234 (4, lv, .inr (.inr none) :: st, w) = rn 234 (7, lv, st, w) := q_ifnonnull_n (tgt := 11) (jd_of jb_234 dX9_refusesIn_4) (by decide)
theorem p234_4s (lv : jmL) (st : List jmV) (w : jmW) (a : Nat) : rn 234 (4, lv, .inr (.inr (some a)) :: st, w) = rn 234 (11, lv, st, w) := q_ifnonnull_s (tgt := 11) (jd_of jb_234 dX9_refusesIn_4) (by decide)
theorem p234_7 (lv : jmL) (st : List jmV) (w : jmW) : rn 234 (7, lv, st, w) = rn 234 (8, lv, .inl (1) :: st, w) := q_iconst (jd_of jb_234 dX9_refusesIn_7)
theorem p234_8 (lv : jmL) (st : List jmV) (w : jmW) : rn 234 (8, lv, st, w) = rn 234 (26, lv, st, w) := q_goto (jd_of jb_234 dX9_refusesIn_8) (by decide)
theorem p234_11 (lv : jmL) (st : List jmV) (w : jmW) : rn 234 (11, lv, st, w) = jq_ldi 234 12 lv st w (jg lv 1) := q_iload_n (jd_of jb_234 dX9_refusesIn_11) rfl
theorem p234_12 (lv : jmL) (st : List jmV) (w : jmW) : rn 234 (12, lv, st, w) = rn 234 (13, lv, .inl (0) :: st, w) := q_iconst (jd_of jb_234 dX9_refusesIn_12)
theorem p234_13 (lv : jmL) (st : List jmV) (w : jmW) : rn 234 (13, lv, st, w) = rn 234 (15, lv, .inl (40) :: st, w) := q_bipush (jd_of jb_234 dX9_refusesIn_13) (by decide +kernel)
theorem p234_15 (lv : jmL) (st : List jmV) (w : jmW) (x1 : Int) (x2 : Int) (x3 : Int) : rn 234 (15, lv, .inl x3 :: .inl x2 :: .inl x1 :: st, w) = jq_b (decide (jwd st ≤ 8)) (jq_c 234 18 lv st (rn 192 (0, [(0, .inl x1), (1, .inl x2), (2, .inl x3)], [], w))) := q_calls (as := [.inl x1, .inl x2, .inl x3]) (rest := st) (jd_of jb_234 dX9_refusesIn_15) jo_234 jk_9_135 rfl rfl rfl jf_234_192 (Nat.le_of_ble_eq_true rfl)
theorem p234_18 (lv : jmL) (st : List jmV) (w : jmW) (x : Int) : rn 234 (18, lv, .inl x :: st, w) = if jw x = 0 then rn 234 (25, lv, st, w) else rn 234 (21, lv, st, w) := q_if_eq (jd_of jb_234 dX9_refusesIn_18) (by decide)
theorem p234_21 (lv : jmL) (st : List jmV) (w : jmW) : rn 234 (21, lv, st, w) = rn 234 (22, lv, .inl (0) :: st, w) := q_iconst (jd_of jb_234 dX9_refusesIn_21)
theorem p234_22 (lv : jmL) (st : List jmV) (w : jmW) : rn 234 (22, lv, st, w) = rn 234 (26, lv, st, w) := q_goto (jd_of jb_234 dX9_refusesIn_22) (by decide)
theorem p234_25 (lv : jmL) (st : List jmV) (w : jmW) : rn 234 (25, lv, st, w) = rn 234 (26, lv, .inl (2) :: st, w) := q_iconst (jd_of jb_234 dX9_refusesIn_25)
theorem p234_26 (lv : jmL) (w : jmW) (x : Int) : rn 234 (26, lv, [.inl x], w) = some (some (.inl x), w) := q_ireturn (jd_of jb_234 dX9_refusesIn_26) jr_234
theorem p235_0 (lv : jmL) (st : List jmV) (w : jmW) : rn 235 (0, lv, st, w) = jq_lda 235 1 lv st w (jg lv 0) := q_aload_n (jd_of jb_235 dX9_dances_0) rfl
theorem p235_1 (lv : jmL) (st : List jmV) (w : jmW) (b : Nat) : rn 235 (1, lv, jvr b :: st, w) = jq_s (mS w b) (1, 9, 0) (jq_b (decide (jwd st ≤ 8)) (jq_c 235 4 lv st (rn 236 (0, [(0, jvr b)], [], w)))) := q_callv (as := []) (rest := st) (jd_of jb_235 dX9_dances_1) jo_235 jk_9_498 rfl rfl rfl jo_236 jf_235_236 (Nat.le_of_ble_eq_true rfl)
theorem p235_4 (lv : jmL) (st : List jmV) (w : jmW) : rn 235 (4, lv, st, w) = jq_lda 235 5 lv st w (jg lv 0) := q_aload_n (jd_of jb_235 dX9_dances_4) rfl
theorem p235_5 (lv : jmL) (st : List jmV) (w : jmW) (b : Nat) : rn 235 (5, lv, jvr b :: st, w) = jq_s (mS w b) (1, 9, 0) (jq_b (decide (jwd st ≤ 8)) (jq_c 235 8 lv st (rn 237 (0, [(0, jvr b)], [], w)))) := q_callv (as := []) (rest := st) (jd_of jb_235 dX9_dances_5) jo_235 jk_9_501 rfl rfl rfl jo_237 jf_235_237 (Nat.le_of_ble_eq_true rfl)
theorem p235_8 (lv : jmL) (st : List jmV) (w : jmW) : rn 235 (8, lv, st, w) = rn 235 (9, lv, .inl (0) :: st, w) := q_iconst (jd_of jb_235 dX9_dances_8)
theorem p235_9 (lv : jmL) (st : List jmV) (w : jmW) (x : Int) : rn 235 (9, lv, .inl x :: st, w) = rn 235 (10, js lv 2 (.inl x), st, w) := q_istore_n (jd_of jb_235 dX9_dances_9) rfl (by rw [jm_235]; decide)
theorem p235_10 (lv : jmL) (st : List jmV) (w : jmW) : rn 235 (10, lv, st, w) = jq_ldi 235 11 lv st w (jg lv 2) := q_iload_n (jd_of jb_235 dX9_dances_10) rfl
theorem p235_11 (lv : jmL) (st : List jmV) (w : jmW) : rn 235 (11, lv, st, w) = jq_ldi 235 12 lv st w (jg lv 1) := q_iload_n (jd_of jb_235 dX9_dances_11) rfl
theorem p235_12 (lv : jmL) (st : List jmV) (w : jmW) (x y : Int) : rn 235 (12, lv, .inl y :: .inl x :: st, w) = if jw x < jw y then rn 235 (15, lv, st, w) else rn 235 (30, lv, st, w) := q_icmp_ge (jd_of jb_235 dX9_dances_12) (by decide)
theorem p235_15 (lv : jmL) (st : List jmV) (w : jmW) : rn 235 (15, lv, st, w) = jq_lda 235 16 lv st w (jg lv 0) := q_aload_n (jd_of jb_235 dX9_dances_15) rfl
theorem p235_16 (lv : jmL) (st : List jmV) (w : jmW) : rn 235 (16, lv, st, w) = jq_lda 235 17 lv st w (jg lv 0) := q_aload_n (jd_of jb_235 dX9_dances_16) rfl
theorem p235_17 (lv : jmL) (st : List jmV) (w : jmW) (a : Nat) : rn 235 (17, lv, jvr a :: st, w) = jq_gs (mS w a) (1, 9, 0) 235 20 lv (.inr (.inr (mR w a 19)) :: st) (w) := q_getf (v := fun w a => .inr (.inr (mR w a 19))) (jd_of jb_235 dX9_dances_17) jo_235 jk_9_24 (fun _ _ => rfl)
theorem p235_20 (lv : jmL) (st : List jmV) (w : jmW) : rn 235 (20, lv, st, w) = rn 235 (21, lv, .inl (0) :: st, w) := q_iconst (jd_of jb_235 dX9_dances_20)
theorem p235_21 (lv : jmL) (st : List jmV) (w : jmW) (b : Nat) (x1 : Option Nat) (x2 : Int) : rn 235 (21, lv, .inl x2 :: .inr (.inr x1) :: jvr b :: st, w) = jq_s (mS w b) (1, 9, 0) (jq_b (decide (jwd st ≤ 8)) (jq_c 235 24 lv st (rn 238 (0, [(0, jvr b), (1, .inr (.inr x1)), (2, .inl x2)], [], w)))) := q_callv (as := [.inr (.inr x1), .inl x2]) (rest := st) (jd_of jb_235 dX9_dances_21) jo_235 jk_9_504 rfl rfl rfl jo_238 jf_235_238 (Nat.le_of_ble_eq_true rfl)
theorem p235_24 (lv : jmL) (st : List jmV) (w : jmW) : rn 235 (24, lv, st, w) = jq_inc 235 27 lv 2 (1) st w (jg lv 2) := q_iinc (jd_of jb_235 dX9_dances_24) (by rw [jm_235]; decide)
theorem p235_27 (lv : jmL) (st : List jmV) (w : jmW) : rn 235 (27, lv, st, w) = rn 235 (10, lv, st, w) := q_goto (jd_of jb_235 dX9_dances_27) (by decide)
theorem p235_30 (lv : jmL) (w : jmW) : rn 235 (30, lv, [], w) = some (none, w) := q_return (jd_of jb_235 dX9_dances_30) jr_235
theorem p236_0 (lv : jmL) (st : List jmV) (w : jmW) : rn 236 (0, lv, st, w) = rn 236 (1, lv, .inl (0) :: st, w) := q_iconst (jd_of jb_236 dX9_copies_0)
theorem p236_1 (lv : jmL) (st : List jmV) (w : jmW) (x : Int) : rn 236 (1, lv, .inl x :: st, w) = rn 236 (2, js lv 1 (.inl x), st, w) := q_istore_n (jd_of jb_236 dX9_copies_1) rfl (by rw [jm_236]; decide)
theorem p236_2 (lv : jmL) (st : List jmV) (w : jmW) : rn 236 (2, lv, st, w) = jq_ldi 236 3 lv st w (jg lv 1) := q_iload_n (jd_of jb_236 dX9_copies_2) rfl
theorem p236_3 (lv : jmL) (st : List jmV) (w : jmW) : rn 236 (3, lv, st, w) = rn 236 (6, lv, .inl (298) :: st, w) := q_sipush (jd_of jb_236 dX9_copies_3) (by decide +kernel)
theorem p236_6 (lv : jmL) (st : List jmV) (w : jmW) (x y : Int) : rn 236 (6, lv, .inl y :: .inl x :: st, w) = if jw x < jw y then rn 236 (9, lv, st, w) else rn 236 (27, lv, st, w) := q_icmp_ge (jd_of jb_236 dX9_copies_6) (by decide)
theorem p236_9 (lv : jmL) (st : List jmV) (w : jmW) : rn 236 (9, lv, st, w) = jq_lda 236 10 lv st w (jg lv 0) := q_aload_n (jd_of jb_236 dX9_copies_9) rfl
theorem p236_10 (lv : jmL) (st : List jmV) (w : jmW) (a : Nat) : rn 236 (10, lv, jvr a :: st, w) = jq_gs (mS w a) (1, 9, 0) 236 13 lv (.inr (.inr (mR w a 19)) :: st) (w) := q_getf (v := fun w a => .inr (.inr (mR w a 19))) (jd_of jb_236 dX9_copies_10) jo_236 jk_9_24 (fun _ _ => rfl)
theorem p236_13 (lv : jmL) (st : List jmV) (w : jmW) : rn 236 (13, lv, st, w) = jq_ldi 236 14 lv st w (jg lv 1) := q_iload_n (jd_of jb_236 dX9_copies_13) rfl
theorem p236_14 (lv : jmL) (st : List jmV) (w : jmW) : rn 236 (14, lv, st, w) = jq_lda 236 15 lv st w (jg lv 0) := q_aload_n (jd_of jb_236 dX9_copies_14) rfl
theorem p236_15 (lv : jmL) (st : List jmV) (w : jmW) (a : Nat) : rn 236 (15, lv, jvr a :: st, w) = jq_gs (mS w a) (1, 9, 0) 236 18 lv (.inr (.inr (mR w a 18)) :: st) (w) := q_getf (v := fun w a => .inr (.inr (mR w a 18))) (jd_of jb_236 dX9_copies_15) jo_236 jk_9_21 (fun _ _ => rfl)
theorem p236_18 (lv : jmL) (st : List jmV) (w : jmW) : rn 236 (18, lv, st, w) = jq_ldi 236 19 lv st w (jg lv 1) := q_iload_n (jd_of jb_236 dX9_copies_18) rfl
theorem p236_19 (lv : jmL) (st : List jmV) (w : jmW) (a : Nat) (j : Int) : rn 236 (19, lv, .inl j :: jvr a :: st, w) = jq_gr (mS w a) 0 j 236 20 lv (.inl (mI w a (jix j)) :: st) (w) := q_iald (jd_of jb_236 dX9_copies_19)
theorem p236_20 (lv : jmL) (st : List jmV) (w : jmW) (a : Nat) (j x : Int) : rn 236 (20, lv, .inl x :: .inl j :: jvr a :: st, w) = jq_gw (mS w a) 0 j 236 21 lv (st) (setI w a (jix j) x) := q_iast (jd_of jb_236 dX9_copies_20)
theorem p236_21 (lv : jmL) (st : List jmV) (w : jmW) : rn 236 (21, lv, st, w) = jq_inc 236 24 lv 1 (1) st w (jg lv 1) := q_iinc (jd_of jb_236 dX9_copies_21) (by rw [jm_236]; decide)
theorem p236_24 (lv : jmL) (st : List jmV) (w : jmW) : rn 236 (24, lv, st, w) = rn 236 (2, lv, st, w) := q_goto (jd_of jb_236 dX9_copies_24) (by decide)
theorem p236_27 (lv : jmL) (w : jmW) : rn 236 (27, lv, [], w) = some (none, w) := q_return (jd_of jb_236 dX9_copies_27) jr_236
theorem p237_0 (lv : jmL) (st : List jmV) (w : jmW) : rn 237 (0, lv, st, w) = jq_lda 237 1 lv st w (jg lv 0) := q_aload_n (jd_of jb_237 dX9_plainly_0) rfl
theorem p237_1 (lv : jmL) (st : List jmV) (w : jmW) : rn 237 (1, lv, st, w) = rn 237 (2, lv, .inl (0) :: st, w) := q_iconst (jd_of jb_237 dX9_plainly_1)
theorem p237_2 (lv : jmL) (st : List jmV) (w : jmW) (a : Nat) (x : Int) : rn 237 (2, lv, .inl x :: jvr a :: st, w) = jq_gs (mS w a) (1, 9, 0) 237 5 lv (st) (setI w a 26 x) := q_putf (jd_of jb_237 dX9_plainly_2) jo_237 jk_9_480 (Or.inl rfl) rfl
theorem p237_5 (lv : jmL) (st : List jmV) (w : jmW) : rn 237 (5, lv, st, w) = jq_lda 237 6 lv st w (jg lv 0) := q_aload_n (jd_of jb_237 dX9_plainly_5) rfl
theorem p237_6 (lv : jmL) (st : List jmV) (w : jmW) : rn 237 (6, lv, st, w) = jq_lda 237 7 lv st w (jg lv 0) := q_aload_n (jd_of jb_237 dX9_plainly_6) rfl
theorem p237_7 (lv : jmL) (st : List jmV) (w : jmW) (a : Nat) : rn 237 (7, lv, jvr a :: st, w) = jq_gs (mS w a) (1, 9, 0) 237 10 lv (.inr (.inr (mR w a 3)) :: st) (w) := q_getf (v := fun w a => .inr (.inr (mR w a 3))) (jd_of jb_237 dX9_plainly_7) jo_237 jk_9_389 (fun _ _ => rfl)
theorem p237_10 (lv : jmL) (st : List jmV) (w : jmW) (a : Nat) : rn 237 (10, lv, jvr a :: st, w) = jq_gs (mS w a) (1, 8, 0) 237 13 lv (.inl (mI w a 6) :: st) (w) := q_getf (v := fun w a => .inl (mI w a 6)) (jd_of jb_237 dX9_plainly_10) jo_237 jk_9_305 (fun _ _ => rfl)
theorem p237_13 (lv : jmL) (st : List jmV) (w : jmW) (a : Nat) (x : Int) : rn 237 (13, lv, .inl x :: jvr a :: st, w) = jq_gs (mS w a) (1, 9, 0) 237 16 lv (st) (setI w a 27 x) := q_putf (jd_of jb_237 dX9_plainly_13) jo_237 jk_9_446 (Or.inl rfl) rfl
theorem p237_16 (lv : jmL) (st : List jmV) (w : jmW) : rn 237 (16, lv, st, w) = rn 237 (17, lv, .inl (0) :: st, w) := q_iconst (jd_of jb_237 dX9_plainly_16)
theorem p237_17 (lv : jmL) (st : List jmV) (w : jmW) (x : Int) : rn 237 (17, lv, .inl x :: st, w) = rn 237 (18, js lv 1 (.inl x), st, w) := q_istore_n (jd_of jb_237 dX9_plainly_17) rfl (by rw [jm_237]; decide)
theorem p237_18 (lv : jmL) (st : List jmV) (w : jmW) : rn 237 (18, lv, st, w) = jq_ldi 237 19 lv st w (jg lv 1) := q_iload_n (jd_of jb_237 dX9_plainly_18) rfl
theorem p237_19 (lv : jmL) (st : List jmV) (w : jmW) : rn 237 (19, lv, st, w) = rn 237 (21, lv, .inl (12) :: st, w) := q_bipush (jd_of jb_237 dX9_plainly_19) (by decide +kernel)
theorem p237_21 (lv : jmL) (st : List jmV) (w : jmW) (x y : Int) : rn 237 (21, lv, .inl y :: .inl x :: st, w) = if jw x < jw y then rn 237 (24, lv, st, w) else rn 237 (45, lv, st, w) := q_icmp_ge (jd_of jb_237 dX9_plainly_21) (by decide)
theorem p237_24 (lv : jmL) (st : List jmV) (w : jmW) : rn 237 (24, lv, st, w) = jq_lda 237 25 lv st w (jg lv 0) := q_aload_n (jd_of jb_237 dX9_plainly_24) rfl
theorem p237_25 (lv : jmL) (st : List jmV) (w : jmW) (a : Nat) : rn 237 (25, lv, jvr a :: st, w) = jq_gs (mS w a) (1, 9, 0) 237 28 lv (.inr (.inr (mR w a 28)) :: st) (w) := q_getf (v := fun w a => .inr (.inr (mR w a 28))) (jd_of jb_237 dX9_plainly_25) jo_237 jk_9_39 (fun _ _ => rfl)
theorem p237_28 (lv : jmL) (st : List jmV) (w : jmW) : rn 237 (28, lv, st, w) = jq_ldi 237 29 lv st w (jg lv 1) := q_iload_n (jd_of jb_237 dX9_plainly_28) rfl
theorem p237_29 (lv : jmL) (st : List jmV) (w : jmW) : rn 237 (29, lv, st, w) = jq_lda 237 30 lv st w (jg lv 0) := q_aload_n (jd_of jb_237 dX9_plainly_29) rfl
theorem p237_30 (lv : jmL) (st : List jmV) (w : jmW) (a : Nat) : rn 237 (30, lv, jvr a :: st, w) = jq_gs (mS w a) (1, 9, 0) 237 33 lv (.inr (.inr (mR w a 3)) :: st) (w) := q_getf (v := fun w a => .inr (.inr (mR w a 3))) (jd_of jb_237 dX9_plainly_30) jo_237 jk_9_389 (fun _ _ => rfl)
theorem p237_33 (lv : jmL) (st : List jmV) (w : jmW) (a : Nat) : rn 237 (33, lv, jvr a :: st, w) = jq_gs (mS w a) (1, 8, 0) 237 36 lv (.inr (.inr (mR w a 28)) :: st) (w) := q_getf (v := fun w a => .inr (.inr (mR w a 28))) (jd_of jb_237 dX9_plainly_33) jo_237 jk_9_308 (fun _ _ => rfl)
theorem p237_36 (lv : jmL) (st : List jmV) (w : jmW) : rn 237 (36, lv, st, w) = jq_ldi 237 37 lv st w (jg lv 1) := q_iload_n (jd_of jb_237 dX9_plainly_36) rfl
theorem p237_37 (lv : jmL) (st : List jmV) (w : jmW) (a : Nat) (j : Int) : rn 237 (37, lv, .inl j :: jvr a :: st, w) = jq_gr (mS w a) 0 j 237 38 lv (.inl (mI w a (jix j)) :: st) (w) := q_iald (jd_of jb_237 dX9_plainly_37)
theorem p237_38 (lv : jmL) (st : List jmV) (w : jmW) (a : Nat) (j x : Int) : rn 237 (38, lv, .inl x :: .inl j :: jvr a :: st, w) = jq_gw (mS w a) 0 j 237 39 lv (st) (setI w a (jix j) x) := q_iast (jd_of jb_237 dX9_plainly_38)
theorem p237_39 (lv : jmL) (st : List jmV) (w : jmW) : rn 237 (39, lv, st, w) = jq_inc 237 42 lv 1 (1) st w (jg lv 1) := q_iinc (jd_of jb_237 dX9_plainly_39) (by rw [jm_237]; decide)
theorem p237_42 (lv : jmL) (st : List jmV) (w : jmW) : rn 237 (42, lv, st, w) = rn 237 (18, lv, st, w) := q_goto (jd_of jb_237 dX9_plainly_42) (by decide)
theorem p237_45 (lv : jmL) (st : List jmV) (w : jmW) : rn 237 (45, lv, st, w) = rn 237 (46, lv, .inl (0) :: st, w) := q_iconst (jd_of jb_237 dX9_plainly_45)
theorem p237_46 (lv : jmL) (st : List jmV) (w : jmW) (x : Int) : rn 237 (46, lv, .inl x :: st, w) = rn 237 (47, js lv 1 (.inl x), st, w) := q_istore_n (jd_of jb_237 dX9_plainly_46) rfl (by rw [jm_237]; decide)
theorem p237_47 (lv : jmL) (st : List jmV) (w : jmW) : rn 237 (47, lv, st, w) = jq_ldi 237 48 lv st w (jg lv 1) := q_iload_n (jd_of jb_237 dX9_plainly_47) rfl
theorem p237_48 (lv : jmL) (st : List jmV) (w : jmW) : rn 237 (48, lv, st, w) = jq_lda 237 49 lv st w (jg lv 0) := q_aload_n (jd_of jb_237 dX9_plainly_48) rfl
theorem p237_49 (lv : jmL) (st : List jmV) (w : jmW) (a : Nat) : rn 237 (49, lv, jvr a :: st, w) = jq_gs (mS w a) (1, 9, 0) 237 52 lv (.inr (.inr (mR w a 29)) :: st) (w) := q_getf (v := fun w a => .inr (.inr (mR w a 29))) (jd_of jb_237 dX9_plainly_49) jo_237 jk_9_42 (fun _ _ => rfl)
theorem p237_52 (lv : jmL) (st : List jmV) (w : jmW) (a : Nat) : rn 237 (52, lv, jvr a :: st, w) = jq_gb (decide ((mS w a).1 = 2 ∨ (mS w a).1 = 4)) 237 53 lv (.inl ((mS w a).2.2 : Nat) :: st) (w) := q_alen (jd_of jb_237 dX9_plainly_52)
theorem p237_53 (lv : jmL) (st : List jmV) (w : jmW) (x y : Int) : rn 237 (53, lv, .inl y :: .inl x :: st, w) = if jw x < jw y then rn 237 (56, lv, st, w) else rn 237 (69, lv, st, w) := q_icmp_ge (jd_of jb_237 dX9_plainly_53) (by decide)
theorem p237_56 (lv : jmL) (st : List jmV) (w : jmW) : rn 237 (56, lv, st, w) = jq_lda 237 57 lv st w (jg lv 0) := q_aload_n (jd_of jb_237 dX9_plainly_56) rfl
theorem p237_57 (lv : jmL) (st : List jmV) (w : jmW) (a : Nat) : rn 237 (57, lv, jvr a :: st, w) = jq_gs (mS w a) (1, 9, 0) 237 60 lv (.inr (.inr (mR w a 29)) :: st) (w) := q_getf (v := fun w a => .inr (.inr (mR w a 29))) (jd_of jb_237 dX9_plainly_57) jo_237 jk_9_42 (fun _ _ => rfl)
theorem p237_60 (lv : jmL) (st : List jmV) (w : jmW) : rn 237 (60, lv, st, w) = jq_ldi 237 61 lv st w (jg lv 1) := q_iload_n (jd_of jb_237 dX9_plainly_60) rfl
theorem p237_61 (lv : jmL) (st : List jmV) (w : jmW) : rn 237 (61, lv, st, w) = rn 237 (62, lv, .inl (0) :: st, w) := q_iconst (jd_of jb_237 dX9_plainly_61)
theorem p237_62 (lv : jmL) (st : List jmV) (w : jmW) (a : Nat) (j x : Int) : rn 237 (62, lv, .inl x :: .inl j :: jvr a :: st, w) = jq_gw (mS w a) 0 j 237 63 lv (st) (setI w a (jix j) x) := q_iast (jd_of jb_237 dX9_plainly_62)
theorem p237_63 (lv : jmL) (st : List jmV) (w : jmW) : rn 237 (63, lv, st, w) = jq_inc 237 66 lv 1 (1) st w (jg lv 1) := q_iinc (jd_of jb_237 dX9_plainly_63) (by rw [jm_237]; decide)
theorem p237_66 (lv : jmL) (st : List jmV) (w : jmW) : rn 237 (66, lv, st, w) = rn 237 (47, lv, st, w) := q_goto (jd_of jb_237 dX9_plainly_66) (by decide)
theorem p237_69 (lv : jmL) (st : List jmV) (w : jmW) : rn 237 (69, lv, st, w) = jq_lda 237 70 lv st w (jg lv 0) := q_aload_n (jd_of jb_237 dX9_plainly_69) rfl
theorem p237_70 (lv : jmL) (st : List jmV) (w : jmW) : rn 237 (70, lv, st, w) = rn 237 (71, lv, .inl (0) :: st, w) := q_iconst (jd_of jb_237 dX9_plainly_70)
theorem p237_71 (lv : jmL) (st : List jmV) (w : jmW) (a : Nat) (x : Int) : rn 237 (71, lv, .inl x :: jvr a :: st, w) = jq_gs (mS w a) (1, 9, 0) 237 74 lv (st) (setI w a 31 x) := q_putf (jd_of jb_237 dX9_plainly_71) jo_237 jk_9_461 (Or.inl rfl) rfl
theorem p237_74 (lv : jmL) (st : List jmV) (w : jmW) : rn 237 (74, lv, st, w) = jq_lda 237 75 lv st w (jg lv 0) := q_aload_n (jd_of jb_237 dX9_plainly_74) rfl
theorem p237_75 (lv : jmL) (st : List jmV) (w : jmW) : rn 237 (75, lv, st, w) = rn 237 (76, lv, .inl (0) :: st, w) := q_iconst (jd_of jb_237 dX9_plainly_75)
theorem p237_76 (lv : jmL) (st : List jmV) (w : jmW) (a : Nat) (x : Int) : rn 237 (76, lv, .inl x :: jvr a :: st, w) = jq_gs (mS w a) (1, 9, 0) 237 79 lv (st) (setI w a 32 x) := q_putf (jd_of jb_237 dX9_plainly_76) jo_237 jk_9_472 (Or.inl rfl) rfl
theorem p237_79 (lv : jmL) (w : jmW) : rn 237 (79, lv, [], w) = some (none, w) := q_return (jd_of jb_237 dX9_plainly_79) jr_237
theorem p238_0 (lv : jmL) (st : List jmV) (w : jmW) : rn 238 (0, lv, st, w) = jq_lda 238 1 lv st w (jg lv 0) := q_aload_n (jd_of jb_238 dX9_beats_0) rfl
theorem p238_1 (lv : jmL) (st : List jmV) (w : jmW) : rn 238 (1, lv, st, w) = rn 238 (2, lv, .inl (-1) :: st, w) := q_iconst (jd_of jb_238 dX9_beats_1)
theorem p238_2 (lv : jmL) (st : List jmV) (w : jmW) (a : Nat) (x : Int) : rn 238 (2, lv, .inl x :: jvr a :: st, w) = jq_gs (mS w a) (1, 9, 0) 238 5 lv (st) (setI w a 30 x) := q_putf (jd_of jb_238 dX9_beats_2) jo_238 jk_9_474 (Or.inl rfl) rfl
theorem p238_5 (lv : jmL) (st : List jmV) (w : jmW) : rn 238 (5, lv, st, w) = jq_lda 238 6 lv st w (jg lv 1) := q_aload_n (jd_of jb_238 dX9_beats_5) rfl
theorem p238_6 (lv : jmL) (st : List jmV) (w : jmW) (x1 : Option Nat) : rn 238 (6, lv, .inr (.inr x1) :: st, w) = jq_b (decide (jwd st ≤ 8)) (jq_c 238 9 lv st (rn 232 (0, [(0, .inr (.inr x1))], [], w))) := q_calls (as := [.inr (.inr x1)]) (rest := st) (jd_of jb_238 dX9_beats_6) jo_238 jk_9_477 rfl rfl rfl jf_238_232 (Nat.le_of_ble_eq_true rfl)
theorem p238_9 (lv : jmL) (st : List jmV) (w : jmW) (x : Int) : rn 238 (9, lv, .inl x :: st, w) = if 0 < jw x then rn 238 (12, lv, st, w) else rn 238 (13, lv, st, w) := q_if_le (jd_of jb_238 dX9_beats_9) (by decide)
theorem p238_12 (lv : jmL) (w : jmW) : rn 238 (12, lv, [], w) = some (none, w) := q_return (jd_of jb_238 dX9_beats_12) jr_238
theorem p238_13 (lv : jmL) (st : List jmV) (w : jmW) : rn 238 (13, lv, st, w) = jq_ldi 238 14 lv st w (jg lv 2) := q_iload_n (jd_of jb_238 dX9_beats_13) rfl
theorem p238_14 (lv : jmL) (st : List jmV) (w : jmW) (x : Int) : rn 238 (14, lv, .inl x :: st, w) = if jw x = 0 then rn 238 (21, lv, st, w) else rn 238 (17, lv, st, w) := q_if_eq (jd_of jb_238 dX9_beats_14) (by decide)
theorem p238_17 (lv : jmL) (st : List jmV) (w : jmW) : rn 238 (17, lv, st, w) = rn 238 (18, lv, .inl (0) :: st, w) := q_iconst (jd_of jb_238 dX9_beats_17)
theorem p238_18 (lv : jmL) (st : List jmV) (w : jmW) : rn 238 (18, lv, st, w) = rn 238 (56, lv, st, w) := q_goto (jd_of jb_238 dX9_beats_18) (by decide)
theorem p238_21 (lv : jmL) (st : List jmV) (w : jmW) : rn 238 (21, lv, st, w) = jq_lda 238 22 lv st w (jg lv 0) := q_aload_n (jd_of jb_238 dX9_beats_21) rfl
theorem p238_22 (lv : jmL) (st : List jmV) (w : jmW) (a : Nat) : rn 238 (22, lv, jvr a :: st, w) = jq_gs (mS w a) (1, 9, 0) 238 25 lv (.inl (mI w a 26) :: st) (w) := q_getf (v := fun w a => .inl (mI w a 26)) (jd_of jb_238 dX9_beats_22) jo_238 jk_9_480 (fun _ _ => rfl)
theorem p238_25 (lv : jmL) (st : List jmV) (w : jmW) (x : Int) : rn 238 (25, lv, .inl x :: st, w) = if 0 < jw x then rn 238 (28, lv, st, w) else rn 238 (35, lv, st, w) := q_if_le (jd_of jb_238 dX9_beats_25) (by decide)
theorem p238_28 (lv : jmL) (st : List jmV) (w : jmW) : rn 238 (28, lv, st, w) = jq_lda 238 29 lv st w (jg lv 0) := q_aload_n (jd_of jb_238 dX9_beats_28) rfl
theorem p238_29 (lv : jmL) (st : List jmV) (w : jmW) (a : Nat) : rn 238 (29, lv, jvr a :: st, w) = jq_gs (mS w a) (1, 9, 0) 238 32 lv (.inl (mI w a 26) :: st) (w) := q_getf (v := fun w a => .inl (mI w a 26)) (jd_of jb_238 dX9_beats_29) jo_238 jk_9_480 (fun _ _ => rfl)
theorem p238_32 (lv : jmL) (st : List jmV) (w : jmW) : rn 238 (32, lv, st, w) = rn 238 (56, lv, st, w) := q_goto (jd_of jb_238 dX9_beats_32) (by decide)
theorem p238_35 (lv : jmL) (st : List jmV) (w : jmW) : rn 238 (35, lv, st, w) = jq_lda 238 36 lv st w (jg lv 0) := q_aload_n (jd_of jb_238 dX9_beats_35) rfl
theorem p238_36 (lv : jmL) (st : List jmV) (w : jmW) (a : Nat) : rn 238 (36, lv, jvr a :: st, w) = jq_gs (mS w a) (1, 9, 0) 238 39 lv (.inr (.inr (mR w a 3)) :: st) (w) := q_getf (v := fun w a => .inr (.inr (mR w a 3))) (jd_of jb_238 dX9_beats_36) jo_238 jk_9_389 (fun _ _ => rfl)
theorem p238_39 (lv : jmL) (st : List jmV) (w : jmW) (a : Nat) : rn 238 (39, lv, jvr a :: st, w) = jq_gs (mS w a) (1, 8, 0) 238 42 lv (.inr (.inr (mR w a 27)) :: st) (w) := q_getf (v := fun w a => .inr (.inr (mR w a 27))) (jd_of jb_238 dX9_beats_39) jo_238 jk_9_289 (fun _ _ => rfl)
theorem p238_42 (lv : jmL) (st : List jmV) (w : jmW) : rn 238 (42, lv, st, w) = jq_lda 238 43 lv st w (jg lv 1) := q_aload_n (jd_of jb_238 dX9_beats_42) rfl
theorem p238_43 (lv : jmL) (st : List jmV) (w : jmW) : rn 238 (43, lv, st, w) = rn 238 (46, lv, .inl (294) :: st, w) := q_sipush (jd_of jb_238 dX9_beats_43) (by decide +kernel)
theorem p238_46 (lv : jmL) (st : List jmV) (w : jmW) (a : Nat) (j : Int) : rn 238 (46, lv, .inl j :: jvr a :: st, w) = jq_gr (mS w a) 0 j 238 47 lv (.inl (mI w a (jix j)) :: st) (w) := q_iald (jd_of jb_238 dX9_beats_46)
theorem p238_47 (lv : jmL) (st : List jmV) (w : jmW) : rn 238 (47, lv, st, w) = jq_lda 238 48 lv st w (jg lv 0) := q_aload_n (jd_of jb_238 dX9_beats_47) rfl
theorem p238_48 (lv : jmL) (st : List jmV) (w : jmW) (a : Nat) : rn 238 (48, lv, jvr a :: st, w) = jq_gs (mS w a) (1, 9, 0) 238 51 lv (.inr (.inr (mR w a 3)) :: st) (w) := q_getf (v := fun w a => .inr (.inr (mR w a 3))) (jd_of jb_238 dX9_beats_48) jo_238 jk_9_389 (fun _ _ => rfl)
theorem p238_51 (lv : jmL) (st : List jmV) (w : jmW) (a : Nat) : rn 238 (51, lv, jvr a :: st, w) = jq_gs (mS w a) (1, 8, 0) 238 54 lv (.inl (mI w a 5) :: st) (w) := q_getf (v := fun w a => .inl (mI w a 5)) (jd_of jb_238 dX9_beats_51) jo_238 jk_9_206 (fun _ _ => rfl)
theorem p238_54 (lv : jmL) (st : List jmV) (w : jmW) (x y : Int) : rn 238 (54, lv, .inl y :: .inl x :: st, w) = if jw y = 0 then none else rn 238 (55, lv, .inl ((jw x).tmod (jw y)) :: st, w) := q_irem (jd_of jb_238 dX9_beats_54)
theorem p238_55 (lv : jmL) (st : List jmV) (w : jmW) (a : Nat) (j : Int) : rn 238 (55, lv, .inl j :: jvr a :: st, w) = jq_gr (mS w a) 0 j 238 56 lv (.inl (mI w a (jix j)) :: st) (w) := q_iald (jd_of jb_238 dX9_beats_55)
theorem p238_56 (lv : jmL) (st : List jmV) (w : jmW) (x : Int) : rn 238 (56, lv, .inl x :: st, w) = rn 238 (57, js lv 3 (.inl x), st, w) := q_istore_n (jd_of jb_238 dX9_beats_56) rfl (by rw [jm_238]; decide)
theorem p238_57 (lv : jmL) (st : List jmV) (w : jmW) : rn 238 (57, lv, st, w) = jq_lda 238 58 lv st w (jg lv 1) := q_aload_n (jd_of jb_238 dX9_beats_57) rfl
theorem p238_58 (lv : jmL) (st : List jmV) (w : jmW) : rn 238 (58, lv, st, w) = rn 238 (61, lv, .inl (294) :: st, w) := q_sipush (jd_of jb_238 dX9_beats_58) (by decide +kernel)
theorem p238_61 (lv : jmL) (st : List jmV) (w : jmW) (y : Int) (x : Option Nat) : rn 238 (61, lv, .inl y :: .inr (.inr x) :: st, w) = rn 238 (62, lv, .inl y :: .inr (.inr x) :: .inl y :: .inr (.inr x) :: st, w) := q_dup2 (jd_of jb_238 dX9_beats_61)
theorem p238_62 (lv : jmL) (st : List jmV) (w : jmW) (a : Nat) (j : Int) : rn 238 (62, lv, .inl j :: jvr a :: st, w) = jq_gr (mS w a) 0 j 238 63 lv (.inl (mI w a (jix j)) :: st) (w) := q_iald (jd_of jb_238 dX9_beats_62)
theorem p238_63 (lv : jmL) (st : List jmV) (w : jmW) : rn 238 (63, lv, st, w) = rn 238 (64, lv, .inl (1) :: st, w) := q_iconst (jd_of jb_238 dX9_beats_63)
theorem p238_64 (lv : jmL) (st : List jmV) (w : jmW) (x y : Int) : rn 238 (64, lv, .inl y :: .inl x :: st, w) = rn 238 (65, lv, .inl (x + y) :: st, w) := q_iadd (jd_of jb_238 dX9_beats_64)
theorem p238_65 (lv : jmL) (st : List jmV) (w : jmW) (a : Nat) (j x : Int) : rn 238 (65, lv, .inl x :: .inl j :: jvr a :: st, w) = jq_gw (mS w a) 0 j 238 66 lv (st) (setI w a (jix j) x) := q_iast (jd_of jb_238 dX9_beats_65)
theorem p238_66 (lv : jmL) (st : List jmV) (w : jmW) : rn 238 (66, lv, st, w) = jq_lda 238 67 lv st w (jg lv 0) := q_aload_n (jd_of jb_238 dX9_beats_66) rfl
theorem p238_67 (lv : jmL) (st : List jmV) (w : jmW) : rn 238 (67, lv, st, w) = jq_lda 238 68 lv st w (jg lv 1) := q_aload_n (jd_of jb_238 dX9_beats_67) rfl
theorem p238_68 (lv : jmL) (st : List jmV) (w : jmW) : rn 238 (68, lv, st, w) = jq_ldi 238 69 lv st w (jg lv 3) := q_iload_n (jd_of jb_238 dX9_beats_68) rfl
theorem p238_69 (lv : jmL) (st : List jmV) (w : jmW) (b : Nat) (x1 : Option Nat) (x2 : Int) : rn 238 (69, lv, .inl x2 :: .inr (.inr x1) :: jvr b :: st, w) = jq_s (mS w b) (1, 9, 0) (jq_b (decide (jwd st ≤ 8)) (jq_c 238 72 lv st (rn 239 (0, [(0, jvr b), (1, .inr (.inr x1)), (2, .inl x2)], [], w)))) := q_callv (as := [.inr (.inr x1), .inl x2]) (rest := st) (jd_of jb_238 dX9_beats_69) jo_238 jk_9_483 rfl rfl rfl jo_239 jf_238_239 (Nat.le_of_ble_eq_true rfl)
theorem p238_72 (lv : jmL) (st : List jmV) (w : jmW) : rn 238 (72, lv, st, w) = jq_lda 238 73 lv st w (jg lv 1) := q_aload_n (jd_of jb_238 dX9_beats_72) rfl
theorem p238_73 (lv : jmL) (st : List jmV) (w : jmW) : rn 238 (73, lv, st, w) = rn 238 (76, lv, .inl (297) :: st, w) := q_sipush (jd_of jb_238 dX9_beats_73) (by decide +kernel)
theorem p238_76 (lv : jmL) (st : List jmV) (w : jmW) (a : Nat) (j : Int) : rn 238 (76, lv, .inl j :: jvr a :: st, w) = jq_gr (mS w a) 0 j 238 77 lv (.inl (mI w a (jix j)) :: st) (w) := q_iald (jd_of jb_238 dX9_beats_76)
theorem p238_77 (lv : jmL) (st : List jmV) (w : jmW) : rn 238 (77, lv, st, w) = rn 238 (78, lv, .inl (1) :: st, w) := q_iconst (jd_of jb_238 dX9_beats_77)
theorem p238_78 (lv : jmL) (st : List jmV) (w : jmW) (x y : Int) : rn 238 (78, lv, .inl y :: .inl x :: st, w) = if jw x = jw y then rn 238 (81, lv, st, w) else rn 238 (82, lv, st, w) := q_icmp_ne (jd_of jb_238 dX9_beats_78) (by decide)
theorem p238_81 (lv : jmL) (w : jmW) : rn 238 (81, lv, [], w) = some (none, w) := q_return (jd_of jb_238 dX9_beats_81) jr_238
theorem p238_82 (lv : jmL) (st : List jmV) (w : jmW) : rn 238 (82, lv, st, w) = rn 238 (83, lv, .inl (1) :: st, w) := q_iconst (jd_of jb_238 dX9_beats_82)
theorem p238_83 (lv : jmL) (st : List jmV) (w : jmW) (x : Int) : rn 238 (83, lv, .inl x :: st, w) = rn 238 (85, js lv 4 (.inl x), st, w) := q_istore (jd_of jb_238 dX9_beats_83) (by rw [jm_238]; decide)
theorem p238_85 (lv : jmL) (st : List jmV) (w : jmW) : rn 238 (85, lv, st, w) = jq_ldi 238 87 lv st w (jg lv 4) := q_iload (jd_of jb_238 dX9_beats_85)
theorem p238_87 (lv : jmL) (st : List jmV) (w : jmW) : rn 238 (87, lv, st, w) = jq_lda 238 88 lv st w (jg lv 1) := q_aload_n (jd_of jb_238 dX9_beats_87) rfl
theorem p238_88 (lv : jmL) (st : List jmV) (w : jmW) : rn 238 (88, lv, st, w) = rn 238 (91, lv, .inl (289) :: st, w) := q_sipush (jd_of jb_238 dX9_beats_88) (by decide +kernel)
theorem p238_91 (lv : jmL) (st : List jmV) (w : jmW) (a : Nat) (j : Int) : rn 238 (91, lv, .inl j :: jvr a :: st, w) = jq_gr (mS w a) 0 j 238 92 lv (.inl (mI w a (jix j)) :: st) (w) := q_iald (jd_of jb_238 dX9_beats_91)
theorem p238_92 (lv : jmL) (st : List jmV) (w : jmW) (x y : Int) : rn 238 (92, lv, .inl y :: .inl x :: st, w) = if jw x < jw y then rn 238 (95, lv, st, w) else rn 238 (108, lv, st, w) := q_icmp_ge (jd_of jb_238 dX9_beats_92) (by decide)
theorem p238_95 (lv : jmL) (st : List jmV) (w : jmW) : rn 238 (95, lv, st, w) = jq_lda 238 96 lv st w (jg lv 0) := q_aload_n (jd_of jb_238 dX9_beats_95) rfl
theorem p238_96 (lv : jmL) (st : List jmV) (w : jmW) : rn 238 (96, lv, st, w) = jq_lda 238 97 lv st w (jg lv 1) := q_aload_n (jd_of jb_238 dX9_beats_96) rfl
theorem p238_97 (lv : jmL) (st : List jmV) (w : jmW) : rn 238 (97, lv, st, w) = jq_ldi 238 99 lv st w (jg lv 4) := q_iload (jd_of jb_238 dX9_beats_97)
theorem p238_99 (lv : jmL) (st : List jmV) (w : jmW) (b : Nat) (x1 : Option Nat) (x2 : Int) : rn 238 (99, lv, .inl x2 :: .inr (.inr x1) :: jvr b :: st, w) = jq_s (mS w b) (1, 9, 0) (jq_b (decide (jwd st ≤ 8)) (jq_c 238 102 lv st (rn 250 (0, [(0, jvr b), (1, .inr (.inr x1)), (2, .inl x2)], [], w)))) := q_callv (as := [.inr (.inr x1), .inl x2]) (rest := st) (jd_of jb_238 dX9_beats_99) jo_238 jk_9_486 rfl rfl rfl jo_250 jf_238_250 (Nat.le_of_ble_eq_true rfl)
theorem p238_102 (lv : jmL) (st : List jmV) (w : jmW) : rn 238 (102, lv, st, w) = jq_inc 238 105 lv 4 (1) st w (jg lv 4) := q_iinc (jd_of jb_238 dX9_beats_102) (by rw [jm_238]; decide)
theorem p238_105 (lv : jmL) (st : List jmV) (w : jmW) : rn 238 (105, lv, st, w) = rn 238 (85, lv, st, w) := q_goto (jd_of jb_238 dX9_beats_105) (by decide)
theorem p238_108 (lv : jmL) (st : List jmV) (w : jmW) : rn 238 (108, lv, st, w) = jq_lda 238 109 lv st w (jg lv 0) := q_aload_n (jd_of jb_238 dX9_beats_108) rfl
theorem p238_109 (lv : jmL) (st : List jmV) (w : jmW) : rn 238 (109, lv, st, w) = jq_lda 238 110 lv st w (jg lv 0) := q_aload_n (jd_of jb_238 dX9_beats_109) rfl
theorem p238_110 (lv : jmL) (st : List jmV) (w : jmW) : rn 238 (110, lv, st, w) = jq_lda 238 111 lv st w (jg lv 1) := q_aload_n (jd_of jb_238 dX9_beats_110) rfl
theorem p238_111 (lv : jmL) (st : List jmV) (w : jmW) (b : Nat) (x1 : Option Nat) : rn 238 (111, lv, .inr (.inr x1) :: jvr b :: st, w) = jq_s (mS w b) (1, 9, 0) (jq_b (decide (jwd st ≤ 8)) (jq_c 238 114 lv st (rn 251 (0, [(0, jvr b), (1, .inr (.inr x1))], [], w)))) := q_callv (as := [.inr (.inr x1)]) (rest := st) (jd_of jb_238 dX9_beats_111) jo_238 jk_9_489 rfl rfl rfl jo_251 jf_238_251 (Nat.le_of_ble_eq_true rfl)
theorem p238_114 (lv : jmL) (st : List jmV) (w : jmW) (a : Nat) (x : Int) : rn 238 (114, lv, .inl x :: jvr a :: st, w) = jq_gs (mS w a) (1, 9, 0) 238 117 lv (st) (setI w a 30 x) := q_putf (jd_of jb_238 dX9_beats_114) jo_238 jk_9_474 (Or.inl rfl) rfl
theorem p238_117 (lv : jmL) (st : List jmV) (w : jmW) : rn 238 (117, lv, st, w) = jq_lda 238 118 lv st w (jg lv 0) := q_aload_n (jd_of jb_238 dX9_beats_117) rfl
theorem p238_118 (lv : jmL) (st : List jmV) (w : jmW) : rn 238 (118, lv, st, w) = jq_lda 238 119 lv st w (jg lv 1) := q_aload_n (jd_of jb_238 dX9_beats_118) rfl
theorem p238_119 (lv : jmL) (st : List jmV) (w : jmW) (b : Nat) (x1 : Option Nat) : rn 238 (119, lv, .inr (.inr x1) :: jvr b :: st, w) = jq_s (mS w b) (1, 9, 0) (jq_b (decide (jwd st ≤ 8)) (jq_c 238 122 lv st (rn 252 (0, [(0, jvr b), (1, .inr (.inr x1))], [], w)))) := q_callv (as := [.inr (.inr x1)]) (rest := st) (jd_of jb_238 dX9_beats_119) jo_238 jk_9_492 rfl rfl rfl jo_252 jf_238_252 (Nat.le_of_ble_eq_true rfl)
theorem p238_122 (lv : jmL) (st : List jmV) (w : jmW) : rn 238 (122, lv, st, w) = rn 238 (123, lv, .inl (0) :: st, w) := q_iconst (jd_of jb_238 dX9_beats_122)
theorem p238_123 (lv : jmL) (st : List jmV) (w : jmW) (x : Int) : rn 238 (123, lv, .inl x :: st, w) = rn 238 (125, js lv 4 (.inl x), st, w) := q_istore (jd_of jb_238 dX9_beats_123) (by rw [jm_238]; decide)
theorem p238_125 (lv : jmL) (st : List jmV) (w : jmW) : rn 238 (125, lv, st, w) = jq_ldi 238 127 lv st w (jg lv 4) := q_iload (jd_of jb_238 dX9_beats_125)
theorem p238_127 (lv : jmL) (st : List jmV) (w : jmW) : rn 238 (127, lv, st, w) = jq_lda 238 128 lv st w (jg lv 0) := q_aload_n (jd_of jb_238 dX9_beats_127) rfl
theorem p238_128 (lv : jmL) (st : List jmV) (w : jmW) (a : Nat) : rn 238 (128, lv, jvr a :: st, w) = jq_gs (mS w a) (1, 9, 0) 238 131 lv (.inr (.inr (mR w a 3)) :: st) (w) := q_getf (v := fun w a => .inr (.inr (mR w a 3))) (jd_of jb_238 dX9_beats_128) jo_238 jk_9_389 (fun _ _ => rfl)
theorem p238_131 (lv : jmL) (st : List jmV) (w : jmW) (a : Nat) : rn 238 (131, lv, jvr a :: st, w) = jq_gs (mS w a) (1, 8, 0) 238 134 lv (.inl (mI w a 3) :: st) (w) := q_getf (v := fun w a => .inl (mI w a 3)) (jd_of jb_238 dX9_beats_131) jo_238 jk_9_311 (fun _ _ => rfl)
theorem p238_134 (lv : jmL) (st : List jmV) (w : jmW) (x y : Int) : rn 238 (134, lv, .inl y :: .inl x :: st, w) = if jw x < jw y then rn 238 (137, lv, st, w) else rn 238 (150, lv, st, w) := q_icmp_ge (jd_of jb_238 dX9_beats_134) (by decide)
theorem p238_137 (lv : jmL) (st : List jmV) (w : jmW) : rn 238 (137, lv, st, w) = jq_lda 238 138 lv st w (jg lv 0) := q_aload_n (jd_of jb_238 dX9_beats_137) rfl
theorem p238_138 (lv : jmL) (st : List jmV) (w : jmW) : rn 238 (138, lv, st, w) = jq_lda 238 139 lv st w (jg lv 1) := q_aload_n (jd_of jb_238 dX9_beats_138) rfl
theorem p238_139 (lv : jmL) (st : List jmV) (w : jmW) : rn 238 (139, lv, st, w) = jq_ldi 238 141 lv st w (jg lv 4) := q_iload (jd_of jb_238 dX9_beats_139)
theorem p238_141 (lv : jmL) (st : List jmV) (w : jmW) (b : Nat) (x1 : Option Nat) (x2 : Int) : rn 238 (141, lv, .inl x2 :: .inr (.inr x1) :: jvr b :: st, w) = jq_s (mS w b) (1, 9, 0) (jq_b (decide (jwd st ≤ 8)) (jq_c 238 144 lv st (rn 255 (0, [(0, jvr b), (1, .inr (.inr x1)), (2, .inl x2)], [], w)))) := q_callv (as := [.inr (.inr x1), .inl x2]) (rest := st) (jd_of jb_238 dX9_beats_141) jo_238 jk_9_495 rfl rfl rfl jo_255 jf_238_255 (Nat.le_of_ble_eq_true rfl)
theorem p238_144 (lv : jmL) (st : List jmV) (w : jmW) : rn 238 (144, lv, st, w) = jq_inc 238 147 lv 4 (1) st w (jg lv 4) := q_iinc (jd_of jb_238 dX9_beats_144) (by rw [jm_238]; decide)
theorem p238_147 (lv : jmL) (st : List jmV) (w : jmW) : rn 238 (147, lv, st, w) = rn 238 (125, lv, st, w) := q_goto (jd_of jb_238 dX9_beats_147) (by decide)
theorem p238_150 (lv : jmL) (w : jmW) : rn 238 (150, lv, [], w) = some (none, w) := q_return (jd_of jb_238 dX9_beats_150) jr_238
theorem p239_0 (lv : jmL) (st : List jmV) (w : jmW) : rn 239 (0, lv, st, w) = jq_lda 239 1 lv st w (jg lv 1) := q_aload_n (jd_of jb_239 dX9_frontGoes_0) rfl
theorem p239_1 (lv : jmL) (st : List jmV) (w : jmW) : rn 239 (1, lv, st, w) = rn 239 (4, lv, .inl (288) :: st, w) := q_sipush (jd_of jb_239 dX9_frontGoes_1) (by decide +kernel)
theorem p239_4 (lv : jmL) (st : List jmV) (w : jmW) (a : Nat) (j : Int) : rn 239 (4, lv, .inl j :: jvr a :: st, w) = jq_gr (mS w a) 0 j 239 5 lv (.inl (mI w a (jix j)) :: st) (w) := q_iald (jd_of jb_239 dX9_frontGoes_4)
theorem p239_5 (lv : jmL) (st : List jmV) (w : jmW) (x : Int) : rn 239 (5, lv, .inl x :: st, w) = rn 239 (6, js lv 3 (.inl x), st, w) := q_istore_n (jd_of jb_239 dX9_frontGoes_5) rfl (by rw [jm_239]; decide)
theorem p239_6 (lv : jmL) (st : List jmV) (w : jmW) : rn 239 (6, lv, st, w) = rn 239 (7, lv, .inl (0) :: st, w) := q_iconst (jd_of jb_239 dX9_frontGoes_6)
theorem p239_7 (lv : jmL) (st : List jmV) (w : jmW) (x : Int) : rn 239 (7, lv, .inl x :: st, w) = rn 239 (9, js lv 4 (.inl x), st, w) := q_istore (jd_of jb_239 dX9_frontGoes_7) (by rw [jm_239]; decide)
theorem p239_9 (lv : jmL) (st : List jmV) (w : jmW) : rn 239 (9, lv, st, w) = jq_ldi 239 11 lv st w (jg lv 4) := q_iload (jd_of jb_239 dX9_frontGoes_9)
theorem p239_11 (lv : jmL) (st : List jmV) (w : jmW) : rn 239 (11, lv, st, w) = jq_ldi 239 12 lv st w (jg lv 2) := q_iload_n (jd_of jb_239 dX9_frontGoes_11) rfl
theorem p239_12 (lv : jmL) (st : List jmV) (w : jmW) (x y : Int) : rn 239 (12, lv, .inl y :: .inl x :: st, w) = if jw x < jw y then rn 239 (15, lv, st, w) else rn 239 (119, lv, st, w) := q_icmp_ge (jd_of jb_239 dX9_frontGoes_12) (by decide)
theorem p239_15 (lv : jmL) (st : List jmV) (w : jmW) : rn 239 (15, lv, st, w) = jq_lda 239 16 lv st w (jg lv 1) := q_aload_n (jd_of jb_239 dX9_frontGoes_15) rfl
theorem p239_16 (lv : jmL) (st : List jmV) (w : jmW) : rn 239 (16, lv, st, w) = rn 239 (19, lv, .inl (297) :: st, w) := q_sipush (jd_of jb_239 dX9_frontGoes_16) (by decide +kernel)
theorem p239_19 (lv : jmL) (st : List jmV) (w : jmW) (a : Nat) (j : Int) : rn 239 (19, lv, .inl j :: jvr a :: st, w) = jq_gr (mS w a) 0 j 239 20 lv (.inl (mI w a (jix j)) :: st) (w) := q_iald (jd_of jb_239 dX9_frontGoes_19)
theorem p239_20 (lv : jmL) (st : List jmV) (w : jmW) (x : Int) : rn 239 (20, lv, .inl x :: st, w) = if jw x = 0 then rn 239 (23, lv, st, w) else rn 239 (119, lv, st, w) := q_if_ne (jd_of jb_239 dX9_frontGoes_20) (by decide)
theorem p239_23 (lv : jmL) (st : List jmV) (w : jmW) : rn 239 (23, lv, st, w) = jq_lda 239 24 lv st w (jg lv 0) := q_aload_n (jd_of jb_239 dX9_frontGoes_23) rfl
theorem p239_24 (lv : jmL) (st : List jmV) (w : jmW) : rn 239 (24, lv, st, w) = jq_lda 239 25 lv st w (jg lv 1) := q_aload_n (jd_of jb_239 dX9_frontGoes_24) rfl
theorem p239_25 (lv : jmL) (st : List jmV) (w : jmW) (b : Nat) (x1 : Option Nat) : rn 239 (25, lv, .inr (.inr x1) :: jvr b :: st, w) = jq_s (mS w b) (1, 9, 0) (jq_b (decide (jwd st ≤ 8)) (jq_c 239 28 lv st (rn 240 (0, [(0, jvr b), (1, .inr (.inr x1))], [], w)))) := q_callv (as := [.inr (.inr x1)]) (rest := st) (jd_of jb_239 dX9_frontGoes_25) jo_239 jk_9_449 rfl rfl rfl jo_240 jf_239_240 (Nat.le_of_ble_eq_true rfl)
theorem p239_28 (lv : jmL) (st : List jmV) (w : jmW) (x : Int) : rn 239 (28, lv, .inl x :: st, w) = rn 239 (30, js lv 5 (.inl x), st, w) := q_istore (jd_of jb_239 dX9_frontGoes_28) (by rw [jm_239]; decide)
theorem p239_30 (lv : jmL) (st : List jmV) (w : jmW) : rn 239 (30, lv, st, w) = jq_ldi 239 32 lv st w (jg lv 5) := q_iload (jd_of jb_239 dX9_frontGoes_30)
theorem p239_32 (lv : jmL) (st : List jmV) (w : jmW) : rn 239 (32, lv, st, w) = rn 239 (33, lv, .inl (-1) :: st, w) := q_iconst (jd_of jb_239 dX9_frontGoes_32)
theorem p239_33 (lv : jmL) (st : List jmV) (w : jmW) (x y : Int) : rn 239 (33, lv, .inl y :: .inl x :: st, w) = if jw x = jw y then rn 239 (36, lv, st, w) else rn 239 (39, lv, st, w) := q_icmp_ne (jd_of jb_239 dX9_frontGoes_33) (by decide)
theorem p239_36 (lv : jmL) (st : List jmV) (w : jmW) : rn 239 (36, lv, st, w) = rn 239 (113, lv, st, w) := q_goto (jd_of jb_239 dX9_frontGoes_36) (by decide)
theorem p239_39 (lv : jmL) (st : List jmV) (w : jmW) : rn 239 (39, lv, st, w) = jq_lda 239 40 lv st w (jg lv 0) := q_aload_n (jd_of jb_239 dX9_frontGoes_39) rfl
theorem p239_40 (lv : jmL) (st : List jmV) (w : jmW) (a : Nat) : rn 239 (40, lv, jvr a :: st, w) = jq_gs (mS w a) (1, 9, 0) 239 43 lv (.inr (.inr (mR w a 3)) :: st) (w) := q_getf (v := fun w a => .inr (.inr (mR w a 3))) (jd_of jb_239 dX9_frontGoes_40) jo_239 jk_9_389 (fun _ _ => rfl)
theorem p239_43 (lv : jmL) (st : List jmV) (w : jmW) : rn 239 (43, lv, st, w) = jq_lda 239 44 lv st w (jg lv 1) := q_aload_n (jd_of jb_239 dX9_frontGoes_43) rfl
theorem p239_44 (lv : jmL) (st : List jmV) (w : jmW) : rn 239 (44, lv, st, w) = rn 239 (45, lv, .inl (0) :: st, w) := q_iconst (jd_of jb_239 dX9_frontGoes_44)
theorem p239_45 (lv : jmL) (st : List jmV) (w : jmW) : rn 239 (45, lv, st, w) = jq_lda 239 46 lv st w (jg lv 1) := q_aload_n (jd_of jb_239 dX9_frontGoes_45) rfl
theorem p239_46 (lv : jmL) (st : List jmV) (w : jmW) : rn 239 (46, lv, st, w) = rn 239 (49, lv, .inl (288) :: st, w) := q_sipush (jd_of jb_239 dX9_frontGoes_46) (by decide +kernel)
theorem p239_49 (lv : jmL) (st : List jmV) (w : jmW) (a : Nat) (j : Int) : rn 239 (49, lv, .inl j :: jvr a :: st, w) = jq_gr (mS w a) 0 j 239 50 lv (.inl (mI w a (jix j)) :: st) (w) := q_iald (jd_of jb_239 dX9_frontGoes_49)
theorem p239_50 (lv : jmL) (st : List jmV) (w : jmW) (x y : Int) : rn 239 (50, lv, .inl y :: .inl x :: st, w) = rn 239 (51, lv, .inl (x + y) :: st, w) := q_iadd (jd_of jb_239 dX9_frontGoes_50)
theorem p239_51 (lv : jmL) (st : List jmV) (w : jmW) : rn 239 (51, lv, st, w) = rn 239 (52, lv, .inl (1) :: st, w) := q_iconst (jd_of jb_239 dX9_frontGoes_51)
theorem p239_52 (lv : jmL) (st : List jmV) (w : jmW) (x y : Int) : rn 239 (52, lv, .inl y :: .inl x :: st, w) = rn 239 (53, lv, .inl (x - y) :: st, w) := q_isub (jd_of jb_239 dX9_frontGoes_52)
theorem p239_53 (lv : jmL) (st : List jmV) (w : jmW) (a : Nat) (j : Int) : rn 239 (53, lv, .inl j :: jvr a :: st, w) = jq_gr (mS w a) 0 j 239 54 lv (.inl (mI w a (jix j)) :: st) (w) := q_iald (jd_of jb_239 dX9_frontGoes_53)
theorem p239_54 (lv : jmL) (st : List jmV) (w : jmW) : rn 239 (54, lv, st, w) = jq_ldi 239 56 lv st w (jg lv 5) := q_iload (jd_of jb_239 dX9_frontGoes_54)
theorem p239_56 (lv : jmL) (st : List jmV) (w : jmW) (b : Nat) (x1 : Int) (x2 : Int) : rn 239 (56, lv, .inl x2 :: .inl x1 :: jvr b :: st, w) = jq_s (mS w b) (1, 8, 0) (jq_b (decide (jwd st ≤ 8)) (jq_c 239 59 lv st (rn 209 (0, [(0, jvr b), (1, .inl x1), (2, .inl x2)], [], w)))) := q_callv (as := [.inl x1, .inl x2]) (rest := st) (jd_of jb_239 dX9_frontGoes_56) jo_239 jk_9_364 rfl rfl rfl jo_209 jf_239_209 (Nat.le_of_ble_eq_true rfl)
theorem p239_59 (lv : jmL) (st : List jmV) (w : jmW) (x : Int) : rn 239 (59, lv, .inl x :: st, w) = rn 239 (61, js lv 6 (.inl x), st, w) := q_istore (jd_of jb_239 dX9_frontGoes_59) (by rw [jm_239]; decide)
theorem p239_61 (lv : jmL) (st : List jmV) (w : jmW) : rn 239 (61, lv, st, w) = jq_lda 239 62 lv st w (jg lv 0) := q_aload_n (jd_of jb_239 dX9_frontGoes_61) rfl
theorem p239_62 (lv : jmL) (st : List jmV) (w : jmW) (a : Nat) : rn 239 (62, lv, jvr a :: st, w) = jq_gs (mS w a) (1, 9, 0) 239 65 lv (.inr (.inr (mR w a 3)) :: st) (w) := q_getf (v := fun w a => .inr (.inr (mR w a 3))) (jd_of jb_239 dX9_frontGoes_62) jo_239 jk_9_389 (fun _ _ => rfl)
theorem p239_65 (lv : jmL) (st : List jmV) (w : jmW) (a : Nat) : rn 239 (65, lv, jvr a :: st, w) = jq_gs (mS w a) (1, 8, 0) 239 68 lv (.inl (mI w a 15) :: st) (w) := q_getf (v := fun w a => .inl (mI w a 15)) (jd_of jb_239 dX9_frontGoes_65) jo_239 jk_9_263 (fun _ _ => rfl)
theorem p239_68 (lv : jmL) (st : List jmV) (w : jmW) (x : Int) : rn 239 (68, lv, .inl x :: st, w) = if jw x = 0 then rn 239 (86, lv, st, w) else rn 239 (71, lv, st, w) := q_if_eq (jd_of jb_239 dX9_frontGoes_68) (by decide)
theorem p239_71 (lv : jmL) (st : List jmV) (w : jmW) : rn 239 (71, lv, st, w) = jq_lda 239 72 lv st w (jg lv 1) := q_aload_n (jd_of jb_239 dX9_frontGoes_71) rfl
theorem p239_72 (lv : jmL) (st : List jmV) (w : jmW) : rn 239 (72, lv, st, w) = jq_ldi 239 74 lv st w (jg lv 6) := q_iload (jd_of jb_239 dX9_frontGoes_72)
theorem p239_74 (lv : jmL) (st : List jmV) (w : jmW) (x1 : Option Nat) (x2 : Int) : rn 239 (74, lv, .inl x2 :: .inr (.inr x1) :: st, w) = jq_b (decide (jwd st ≤ 8)) (jq_c 239 77 lv st (rn 244 (0, [(0, .inr (.inr x1)), (1, .inl x2)], [], w))) := q_calls (as := [.inr (.inr x1), .inl x2]) (rest := st) (jd_of jb_239 dX9_frontGoes_74) jo_239 jk_9_412 rfl rfl rfl jf_239_244 (Nat.le_of_ble_eq_true rfl)
theorem p239_77 (lv : jmL) (st : List jmV) (w : jmW) (x : Int) : rn 239 (77, lv, .inl x :: st, w) = if jw x = 0 then rn 239 (86, lv, st, w) else rn 239 (80, lv, st, w) := q_if_eq (jd_of jb_239 dX9_frontGoes_77) (by decide)
theorem p239_80 (lv : jmL) (st : List jmV) (w : jmW) : rn 239 (80, lv, st, w) = jq_lda 239 81 lv st w (jg lv 1) := q_aload_n (jd_of jb_239 dX9_frontGoes_80) rfl
theorem p239_81 (lv : jmL) (st : List jmV) (w : jmW) : rn 239 (81, lv, st, w) = rn 239 (84, lv, .inl (297) :: st, w) := q_sipush (jd_of jb_239 dX9_frontGoes_81) (by decide +kernel)
theorem p239_84 (lv : jmL) (st : List jmV) (w : jmW) : rn 239 (84, lv, st, w) = rn 239 (85, lv, .inl (1) :: st, w) := q_iconst (jd_of jb_239 dX9_frontGoes_84)
theorem p239_85 (lv : jmL) (st : List jmV) (w : jmW) (a : Nat) (j x : Int) : rn 239 (85, lv, .inl x :: .inl j :: jvr a :: st, w) = jq_gw (mS w a) 0 j 239 86 lv (st) (setI w a (jix j) x) := q_iast (jd_of jb_239 dX9_frontGoes_85)
theorem p239_86 (lv : jmL) (st : List jmV) (w : jmW) : rn 239 (86, lv, st, w) = jq_lda 239 87 lv st w (jg lv 1) := q_aload_n (jd_of jb_239 dX9_frontGoes_86) rfl
theorem p239_87 (lv : jmL) (st : List jmV) (w : jmW) : rn 239 (87, lv, st, w) = rn 239 (88, lv, .inl (0) :: st, w) := q_iconst (jd_of jb_239 dX9_frontGoes_87)
theorem p239_88 (lv : jmL) (st : List jmV) (w : jmW) : rn 239 (88, lv, st, w) = jq_lda 239 89 lv st w (jg lv 1) := q_aload_n (jd_of jb_239 dX9_frontGoes_88) rfl
theorem p239_89 (lv : jmL) (st : List jmV) (w : jmW) : rn 239 (89, lv, st, w) = rn 239 (92, lv, .inl (288) :: st, w) := q_sipush (jd_of jb_239 dX9_frontGoes_89) (by decide +kernel)
theorem p239_92 (lv : jmL) (st : List jmV) (w : jmW) (a : Nat) (j : Int) : rn 239 (92, lv, .inl j :: jvr a :: st, w) = jq_gr (mS w a) 0 j 239 93 lv (.inl (mI w a (jix j)) :: st) (w) := q_iald (jd_of jb_239 dX9_frontGoes_92)
theorem p239_93 (lv : jmL) (st : List jmV) (w : jmW) (x y : Int) : rn 239 (93, lv, .inl y :: .inl x :: st, w) = rn 239 (94, lv, .inl (x + y) :: st, w) := q_iadd (jd_of jb_239 dX9_frontGoes_93)
theorem p239_94 (lv : jmL) (st : List jmV) (w : jmW) : rn 239 (94, lv, st, w) = jq_ldi 239 96 lv st w (jg lv 6) := q_iload (jd_of jb_239 dX9_frontGoes_94)
theorem p239_96 (lv : jmL) (st : List jmV) (w : jmW) (a : Nat) (j x : Int) : rn 239 (96, lv, .inl x :: .inl j :: jvr a :: st, w) = jq_gw (mS w a) 0 j 239 97 lv (st) (setI w a (jix j) x) := q_iast (jd_of jb_239 dX9_frontGoes_96)
theorem p239_97 (lv : jmL) (st : List jmV) (w : jmW) : rn 239 (97, lv, st, w) = jq_lda 239 98 lv st w (jg lv 1) := q_aload_n (jd_of jb_239 dX9_frontGoes_97) rfl
theorem p239_98 (lv : jmL) (st : List jmV) (w : jmW) : rn 239 (98, lv, st, w) = rn 239 (101, lv, .inl (288) :: st, w) := q_sipush (jd_of jb_239 dX9_frontGoes_98) (by decide +kernel)
theorem p239_101 (lv : jmL) (st : List jmV) (w : jmW) (y : Int) (x : Option Nat) : rn 239 (101, lv, .inl y :: .inr (.inr x) :: st, w) = rn 239 (102, lv, .inl y :: .inr (.inr x) :: .inl y :: .inr (.inr x) :: st, w) := q_dup2 (jd_of jb_239 dX9_frontGoes_101)
theorem p239_102 (lv : jmL) (st : List jmV) (w : jmW) (a : Nat) (j : Int) : rn 239 (102, lv, .inl j :: jvr a :: st, w) = jq_gr (mS w a) 0 j 239 103 lv (.inl (mI w a (jix j)) :: st) (w) := q_iald (jd_of jb_239 dX9_frontGoes_102)
theorem p239_103 (lv : jmL) (st : List jmV) (w : jmW) : rn 239 (103, lv, st, w) = rn 239 (104, lv, .inl (1) :: st, w) := q_iconst (jd_of jb_239 dX9_frontGoes_103)
theorem p239_104 (lv : jmL) (st : List jmV) (w : jmW) (x y : Int) : rn 239 (104, lv, .inl y :: .inl x :: st, w) = rn 239 (105, lv, .inl (x + y) :: st, w) := q_iadd (jd_of jb_239 dX9_frontGoes_104)
theorem p239_105 (lv : jmL) (st : List jmV) (w : jmW) (a : Nat) (j x : Int) : rn 239 (105, lv, .inl x :: .inl j :: jvr a :: st, w) = jq_gw (mS w a) 0 j 239 106 lv (st) (setI w a (jix j) x) := q_iast (jd_of jb_239 dX9_frontGoes_105)
theorem p239_106 (lv : jmL) (st : List jmV) (w : jmW) : rn 239 (106, lv, st, w) = jq_lda 239 107 lv st w (jg lv 1) := q_aload_n (jd_of jb_239 dX9_frontGoes_106) rfl
theorem p239_107 (lv : jmL) (st : List jmV) (w : jmW) : rn 239 (107, lv, st, w) = rn 239 (110, lv, .inl (292) :: st, w) := q_sipush (jd_of jb_239 dX9_frontGoes_107) (by decide +kernel)
theorem p239_110 (lv : jmL) (st : List jmV) (w : jmW) : rn 239 (110, lv, st, w) = jq_ldi 239 112 lv st w (jg lv 5) := q_iload (jd_of jb_239 dX9_frontGoes_110)
theorem p239_112 (lv : jmL) (st : List jmV) (w : jmW) (a : Nat) (j x : Int) : rn 239 (112, lv, .inl x :: .inl j :: jvr a :: st, w) = jq_gw (mS w a) 0 j 239 113 lv (st) (setI w a (jix j) x) := q_iast (jd_of jb_239 dX9_frontGoes_112)
theorem p239_113 (lv : jmL) (st : List jmV) (w : jmW) : rn 239 (113, lv, st, w) = jq_inc 239 116 lv 4 (1) st w (jg lv 4) := q_iinc (jd_of jb_239 dX9_frontGoes_113) (by rw [jm_239]; decide)
theorem p239_116 (lv : jmL) (st : List jmV) (w : jmW) : rn 239 (116, lv, st, w) = rn 239 (9, lv, st, w) := q_goto (jd_of jb_239 dX9_frontGoes_116) (by decide)
theorem p239_119 (lv : jmL) (st : List jmV) (w : jmW) : rn 239 (119, lv, st, w) = jq_lda 239 120 lv st w (jg lv 0) := q_aload_n (jd_of jb_239 dX9_frontGoes_119) rfl
theorem p239_120 (lv : jmL) (st : List jmV) (w : jmW) (a : Nat) : rn 239 (120, lv, jvr a :: st, w) = jq_gs (mS w a) (1, 9, 0) 239 123 lv (.inr (.inr (mR w a 29)) :: st) (w) := q_getf (v := fun w a => .inr (.inr (mR w a 29))) (jd_of jb_239 dX9_frontGoes_120) jo_239 jk_9_42 (fun _ _ => rfl)
theorem p239_123 (lv : jmL) (st : List jmV) (w : jmW) : rn 239 (123, lv, st, w) = jq_lda 239 124 lv st w (jg lv 1) := q_aload_n (jd_of jb_239 dX9_frontGoes_123) rfl
theorem p239_124 (lv : jmL) (st : List jmV) (w : jmW) : rn 239 (124, lv, st, w) = rn 239 (127, lv, .inl (204) :: st, w) := q_sipush (jd_of jb_239 dX9_frontGoes_124) (by decide +kernel)
theorem p239_127 (lv : jmL) (st : List jmV) (w : jmW) (a : Nat) (j : Int) : rn 239 (127, lv, .inl j :: jvr a :: st, w) = jq_gr (mS w a) 0 j 239 128 lv (.inl (mI w a (jix j)) :: st) (w) := q_iald (jd_of jb_239 dX9_frontGoes_127)
theorem p239_128 (lv : jmL) (st : List jmV) (w : jmW) (y : Int) (x : Option Nat) : rn 239 (128, lv, .inl y :: .inr (.inr x) :: st, w) = rn 239 (129, lv, .inl y :: .inr (.inr x) :: .inl y :: .inr (.inr x) :: st, w) := q_dup2 (jd_of jb_239 dX9_frontGoes_128)
theorem p239_129 (lv : jmL) (st : List jmV) (w : jmW) (a : Nat) (j : Int) : rn 239 (129, lv, .inl j :: jvr a :: st, w) = jq_gr (mS w a) 0 j 239 130 lv (.inl (mI w a (jix j)) :: st) (w) := q_iald (jd_of jb_239 dX9_frontGoes_129)
theorem p239_130 (lv : jmL) (st : List jmV) (w : jmW) : rn 239 (130, lv, st, w) = jq_lda 239 131 lv st w (jg lv 1) := q_aload_n (jd_of jb_239 dX9_frontGoes_130) rfl
theorem p239_131 (lv : jmL) (st : List jmV) (w : jmW) : rn 239 (131, lv, st, w) = rn 239 (134, lv, .inl (288) :: st, w) := q_sipush (jd_of jb_239 dX9_frontGoes_131) (by decide +kernel)
theorem p239_134 (lv : jmL) (st : List jmV) (w : jmW) (a : Nat) (j : Int) : rn 239 (134, lv, .inl j :: jvr a :: st, w) = jq_gr (mS w a) 0 j 239 135 lv (.inl (mI w a (jix j)) :: st) (w) := q_iald (jd_of jb_239 dX9_frontGoes_134)
theorem p239_135 (lv : jmL) (st : List jmV) (w : jmW) : rn 239 (135, lv, st, w) = jq_ldi 239 136 lv st w (jg lv 3) := q_iload_n (jd_of jb_239 dX9_frontGoes_135) rfl
theorem p239_136 (lv : jmL) (st : List jmV) (w : jmW) (x y : Int) : rn 239 (136, lv, .inl y :: .inl x :: st, w) = rn 239 (137, lv, .inl (x - y) :: st, w) := q_isub (jd_of jb_239 dX9_frontGoes_136)
theorem p239_137 (lv : jmL) (st : List jmV) (w : jmW) (x y : Int) : rn 239 (137, lv, .inl y :: .inl x :: st, w) = rn 239 (138, lv, .inl (x + y) :: st, w) := q_iadd (jd_of jb_239 dX9_frontGoes_137)
theorem p239_138 (lv : jmL) (st : List jmV) (w : jmW) (a : Nat) (j x : Int) : rn 239 (138, lv, .inl x :: .inl j :: jvr a :: st, w) = jq_gw (mS w a) 0 j 239 139 lv (st) (setI w a (jix j) x) := q_iast (jd_of jb_239 dX9_frontGoes_138)
theorem p239_139 (lv : jmL) (st : List jmV) (w : jmW) : rn 239 (139, lv, st, w) = jq_lda 239 140 lv st w (jg lv 1) := q_aload_n (jd_of jb_239 dX9_frontGoes_139) rfl
theorem p239_140 (lv : jmL) (st : List jmV) (w : jmW) : rn 239 (140, lv, st, w) = rn 239 (143, lv, .inl (220) :: st, w) := q_sipush (jd_of jb_239 dX9_frontGoes_140) (by decide +kernel)
theorem p239_143 (lv : jmL) (st : List jmV) (w : jmW) : rn 239 (143, lv, st, w) = jq_lda 239 144 lv st w (jg lv 1) := q_aload_n (jd_of jb_239 dX9_frontGoes_143) rfl
theorem p239_144 (lv : jmL) (st : List jmV) (w : jmW) : rn 239 (144, lv, st, w) = rn 239 (147, lv, .inl (288) :: st, w) := q_sipush (jd_of jb_239 dX9_frontGoes_144) (by decide +kernel)
theorem p239_147 (lv : jmL) (st : List jmV) (w : jmW) (a : Nat) (j : Int) : rn 239 (147, lv, .inl j :: jvr a :: st, w) = jq_gr (mS w a) 0 j 239 148 lv (.inl (mI w a (jix j)) :: st) (w) := q_iald (jd_of jb_239 dX9_frontGoes_147)
theorem p239_148 (lv : jmL) (st : List jmV) (w : jmW) : rn 239 (148, lv, st, w) = rn 239 (149, lv, .inl (1) :: st, w) := q_iconst (jd_of jb_239 dX9_frontGoes_148)
theorem p239_149 (lv : jmL) (st : List jmV) (w : jmW) (x y : Int) : rn 239 (149, lv, .inl y :: .inl x :: st, w) = rn 239 (150, lv, .inl (x - y) :: st, w) := q_isub (jd_of jb_239 dX9_frontGoes_149)
theorem p239_150 (lv : jmL) (st : List jmV) (w : jmW) (a : Nat) (j x : Int) : rn 239 (150, lv, .inl x :: .inl j :: jvr a :: st, w) = jq_gw (mS w a) 0 j 239 151 lv (st) (setI w a (jix j) x) := q_iast (jd_of jb_239 dX9_frontGoes_150)
theorem p239_151 (lv : jmL) (w : jmW) : rn 239 (151, lv, [], w) = some (none, w) := q_return (jd_of jb_239 dX9_frontGoes_151) jr_239
theorem p240_0 (lv : jmL) (st : List jmV) (w : jmW) : rn 240 (0, lv, st, w) = jq_lda 240 1 lv st w (jg lv 1) := q_aload_n (jd_of jb_240 dX9_leads_0) rfl
theorem p240_1 (lv : jmL) (st : List jmV) (w : jmW) : rn 240 (1, lv, st, w) = rn 240 (4, lv, .inl (292) :: st, w) := q_sipush (jd_of jb_240 dX9_leads_1) (by decide +kernel)
theorem p240_4 (lv : jmL) (st : List jmV) (w : jmW) (a : Nat) (j : Int) : rn 240 (4, lv, .inl j :: jvr a :: st, w) = jq_gr (mS w a) 0 j 240 5 lv (.inl (mI w a (jix j)) :: st) (w) := q_iald (jd_of jb_240 dX9_leads_4)
theorem p240_5 (lv : jmL) (st : List jmV) (w : jmW) (x : Int) : rn 240 (5, lv, .inl x :: st, w) = rn 240 (6, js lv 2 (.inl x), st, w) := q_istore_n (jd_of jb_240 dX9_leads_5) rfl (by rw [jm_240]; decide)
theorem p240_6 (lv : jmL) (st : List jmV) (w : jmW) : rn 240 (6, lv, st, w) = jq_lda 240 7 lv st w (jg lv 1) := q_aload_n (jd_of jb_240 dX9_leads_6) rfl
theorem p240_7 (lv : jmL) (st : List jmV) (w : jmW) : rn 240 (7, lv, st, w) = rn 240 (10, lv, .inl (291) :: st, w) := q_sipush (jd_of jb_240 dX9_leads_7) (by decide +kernel)
theorem p240_10 (lv : jmL) (st : List jmV) (w : jmW) (a : Nat) (j : Int) : rn 240 (10, lv, .inl j :: jvr a :: st, w) = jq_gr (mS w a) 0 j 240 11 lv (.inl (mI w a (jix j)) :: st) (w) := q_iald (jd_of jb_240 dX9_leads_10)
theorem p240_11 (lv : jmL) (st : List jmV) (w : jmW) (x : Int) : rn 240 (11, lv, .inl x :: st, w) = if jw x = 0 then rn 240 (44, lv, st, w) else if jw x = 1 then rn 240 (60, lv, st, w) else if jw x = 2 then rn 240 (76, lv, st, w) else if jw x = 3 then rn 240 (92, lv, st, w) else if jw x = 4 then rn 240 (98, lv, st, w) else rn 240 (104, lv, st, w) := by
  by_cases h0 : jw x = 0
  · rw [if_pos h0]; exact q_table (jd_of jb_240 dX9_leads_11) (by omega) (by omega) (off := 33) (by rw [h0]; rfl) (by decide)
  rw [if_neg h0]
  by_cases h1 : jw x = 1
  · rw [if_pos h1]; exact q_table (jd_of jb_240 dX9_leads_11) (by omega) (by omega) (off := 49) (by rw [h1]; rfl) (by decide)
  rw [if_neg h1]
  by_cases h2 : jw x = 2
  · rw [if_pos h2]; exact q_table (jd_of jb_240 dX9_leads_11) (by omega) (by omega) (off := 65) (by rw [h2]; rfl) (by decide)
  rw [if_neg h2]
  by_cases h3 : jw x = 3
  · rw [if_pos h3]; exact q_table (jd_of jb_240 dX9_leads_11) (by omega) (by omega) (off := 81) (by rw [h3]; rfl) (by decide)
  rw [if_neg h3]
  by_cases h4 : jw x = 4
  · rw [if_pos h4]; exact q_table (jd_of jb_240 dX9_leads_11) (by omega) (by omega) (off := 87) (by rw [h4]; rfl) (by decide)
  rw [if_neg h4]
  exact q_tabled (jd_of jb_240 dX9_leads_11) (by omega) (by decide)
theorem p240_44 (lv : jmL) (st : List jmV) (w : jmW) : rn 240 (44, lv, st, w) = jq_lda 240 45 lv st w (jg lv 0) := q_aload_n (jd_of jb_240 dX9_leads_44) rfl
theorem p240_45 (lv : jmL) (st : List jmV) (w : jmW) : rn 240 (45, lv, st, w) = jq_lda 240 46 lv st w (jg lv 1) := q_aload_n (jd_of jb_240 dX9_leads_45) rfl
theorem p240_46 (lv : jmL) (st : List jmV) (w : jmW) : rn 240 (46, lv, st, w) = jq_ldi 240 47 lv st w (jg lv 2) := q_iload_n (jd_of jb_240 dX9_leads_46) rfl
theorem p240_47 (lv : jmL) (st : List jmV) (w : jmW) : rn 240 (47, lv, st, w) = jq_ldi 240 48 lv st w (jg lv 2) := q_iload_n (jd_of jb_240 dX9_leads_47) rfl
theorem p240_48 (lv : jmL) (st : List jmV) (w : jmW) : rn 240 (48, lv, st, w) = rn 240 (49, lv, .inl (1) :: st, w) := q_iconst (jd_of jb_240 dX9_leads_48)
theorem p240_49 (lv : jmL) (st : List jmV) (w : jmW) (x y : Int) : rn 240 (49, lv, .inl y :: .inl x :: st, w) = rn 240 (50, lv, .inl (x + y) :: st, w) := q_iadd (jd_of jb_240 dX9_leads_49)
theorem p240_50 (lv : jmL) (st : List jmV) (w : jmW) : rn 240 (50, lv, st, w) = jq_ldi 240 51 lv st w (jg lv 2) := q_iload_n (jd_of jb_240 dX9_leads_50) rfl
theorem p240_51 (lv : jmL) (st : List jmV) (w : jmW) : rn 240 (51, lv, st, w) = rn 240 (52, lv, .inl (3) :: st, w) := q_iconst (jd_of jb_240 dX9_leads_51)
theorem p240_52 (lv : jmL) (st : List jmV) (w : jmW) (x y : Int) : rn 240 (52, lv, .inl y :: .inl x :: st, w) = rn 240 (53, lv, .inl (x + y) :: st, w) := q_iadd (jd_of jb_240 dX9_leads_52)
theorem p240_53 (lv : jmL) (st : List jmV) (w : jmW) : rn 240 (53, lv, st, w) = jq_ldi 240 54 lv st w (jg lv 2) := q_iload_n (jd_of jb_240 dX9_leads_53) rfl
theorem p240_54 (lv : jmL) (st : List jmV) (w : jmW) : rn 240 (54, lv, st, w) = rn 240 (55, lv, .inl (2) :: st, w) := q_iconst (jd_of jb_240 dX9_leads_54)
theorem p240_55 (lv : jmL) (st : List jmV) (w : jmW) (x y : Int) : rn 240 (55, lv, .inl y :: .inl x :: st, w) = rn 240 (56, lv, .inl (x + y) :: st, w) := q_iadd (jd_of jb_240 dX9_leads_55)
theorem p240_56 (lv : jmL) (st : List jmV) (w : jmW) (b : Nat) (x1 : Option Nat) (x2 : Int) (x3 : Int) (x4 : Int) (x5 : Int) : rn 240 (56, lv, .inl x5 :: .inl x4 :: .inl x3 :: .inl x2 :: .inr (.inr x1) :: jvr b :: st, w) = jq_s (mS w b) (1, 9, 0) (jq_b (decide (jwd st ≤ 8)) (jq_c 240 59 lv st (rn 241 (0, [(0, jvr b), (1, .inr (.inr x1)), (2, .inl x2), (3, .inl x3), (4, .inl x4), (5, .inl x5)], [], w)))) := q_callv (as := [.inr (.inr x1), .inl x2, .inl x3, .inl x4, .inl x5]) (rest := st) (jd_of jb_240 dX9_leads_56) jo_240 jk_9_416 rfl rfl rfl jo_241 jf_240_241 (Nat.le_of_ble_eq_true rfl)
theorem p240_59 (lv : jmL) (w : jmW) (x : Int) : rn 240 (59, lv, [.inl x], w) = some (some (.inl x), w) := q_ireturn (jd_of jb_240 dX9_leads_59) jr_240
theorem p240_60 (lv : jmL) (st : List jmV) (w : jmW) : rn 240 (60, lv, st, w) = jq_lda 240 61 lv st w (jg lv 0) := q_aload_n (jd_of jb_240 dX9_leads_60) rfl
theorem p240_61 (lv : jmL) (st : List jmV) (w : jmW) : rn 240 (61, lv, st, w) = jq_lda 240 62 lv st w (jg lv 1) := q_aload_n (jd_of jb_240 dX9_leads_61) rfl
theorem p240_62 (lv : jmL) (st : List jmV) (w : jmW) : rn 240 (62, lv, st, w) = jq_ldi 240 63 lv st w (jg lv 2) := q_iload_n (jd_of jb_240 dX9_leads_62) rfl
theorem p240_63 (lv : jmL) (st : List jmV) (w : jmW) : rn 240 (63, lv, st, w) = rn 240 (64, lv, .inl (1) :: st, w) := q_iconst (jd_of jb_240 dX9_leads_63)
theorem p240_64 (lv : jmL) (st : List jmV) (w : jmW) (x y : Int) : rn 240 (64, lv, .inl y :: .inl x :: st, w) = rn 240 (65, lv, .inl (x + y) :: st, w) := q_iadd (jd_of jb_240 dX9_leads_64)
theorem p240_65 (lv : jmL) (st : List jmV) (w : jmW) : rn 240 (65, lv, st, w) = jq_ldi 240 66 lv st w (jg lv 2) := q_iload_n (jd_of jb_240 dX9_leads_65) rfl
theorem p240_66 (lv : jmL) (st : List jmV) (w : jmW) : rn 240 (66, lv, st, w) = jq_ldi 240 67 lv st w (jg lv 2) := q_iload_n (jd_of jb_240 dX9_leads_66) rfl
theorem p240_67 (lv : jmL) (st : List jmV) (w : jmW) : rn 240 (67, lv, st, w) = rn 240 (68, lv, .inl (3) :: st, w) := q_iconst (jd_of jb_240 dX9_leads_67)
theorem p240_68 (lv : jmL) (st : List jmV) (w : jmW) (x y : Int) : rn 240 (68, lv, .inl y :: .inl x :: st, w) = rn 240 (69, lv, .inl (x + y) :: st, w) := q_iadd (jd_of jb_240 dX9_leads_68)
theorem p240_69 (lv : jmL) (st : List jmV) (w : jmW) : rn 240 (69, lv, st, w) = jq_ldi 240 70 lv st w (jg lv 2) := q_iload_n (jd_of jb_240 dX9_leads_69) rfl
theorem p240_70 (lv : jmL) (st : List jmV) (w : jmW) : rn 240 (70, lv, st, w) = rn 240 (71, lv, .inl (2) :: st, w) := q_iconst (jd_of jb_240 dX9_leads_70)
theorem p240_71 (lv : jmL) (st : List jmV) (w : jmW) (x y : Int) : rn 240 (71, lv, .inl y :: .inl x :: st, w) = rn 240 (72, lv, .inl (x + y) :: st, w) := q_iadd (jd_of jb_240 dX9_leads_71)
theorem p240_72 (lv : jmL) (st : List jmV) (w : jmW) (b : Nat) (x1 : Option Nat) (x2 : Int) (x3 : Int) (x4 : Int) (x5 : Int) : rn 240 (72, lv, .inl x5 :: .inl x4 :: .inl x3 :: .inl x2 :: .inr (.inr x1) :: jvr b :: st, w) = jq_s (mS w b) (1, 9, 0) (jq_b (decide (jwd st ≤ 8)) (jq_c 240 75 lv st (rn 241 (0, [(0, jvr b), (1, .inr (.inr x1)), (2, .inl x2), (3, .inl x3), (4, .inl x4), (5, .inl x5)], [], w)))) := q_callv (as := [.inr (.inr x1), .inl x2, .inl x3, .inl x4, .inl x5]) (rest := st) (jd_of jb_240 dX9_leads_72) jo_240 jk_9_416 rfl rfl rfl jo_241 jf_240_241 (Nat.le_of_ble_eq_true rfl)
theorem p240_75 (lv : jmL) (w : jmW) (x : Int) : rn 240 (75, lv, [.inl x], w) = some (some (.inl x), w) := q_ireturn (jd_of jb_240 dX9_leads_75) jr_240
theorem p240_76 (lv : jmL) (st : List jmV) (w : jmW) : rn 240 (76, lv, st, w) = jq_lda 240 77 lv st w (jg lv 0) := q_aload_n (jd_of jb_240 dX9_leads_76) rfl
theorem p240_77 (lv : jmL) (st : List jmV) (w : jmW) : rn 240 (77, lv, st, w) = jq_lda 240 78 lv st w (jg lv 1) := q_aload_n (jd_of jb_240 dX9_leads_77) rfl
theorem p240_78 (lv : jmL) (st : List jmV) (w : jmW) : rn 240 (78, lv, st, w) = jq_ldi 240 79 lv st w (jg lv 2) := q_iload_n (jd_of jb_240 dX9_leads_78) rfl
theorem p240_79 (lv : jmL) (st : List jmV) (w : jmW) : rn 240 (79, lv, st, w) = rn 240 (80, lv, .inl (3) :: st, w) := q_iconst (jd_of jb_240 dX9_leads_79)
theorem p240_80 (lv : jmL) (st : List jmV) (w : jmW) (x y : Int) : rn 240 (80, lv, .inl y :: .inl x :: st, w) = rn 240 (81, lv, .inl (x + y) :: st, w) := q_iadd (jd_of jb_240 dX9_leads_80)
theorem p240_81 (lv : jmL) (st : List jmV) (w : jmW) : rn 240 (81, lv, st, w) = jq_ldi 240 82 lv st w (jg lv 2) := q_iload_n (jd_of jb_240 dX9_leads_81) rfl
theorem p240_82 (lv : jmL) (st : List jmV) (w : jmW) : rn 240 (82, lv, st, w) = jq_ldi 240 83 lv st w (jg lv 2) := q_iload_n (jd_of jb_240 dX9_leads_82) rfl
theorem p240_83 (lv : jmL) (st : List jmV) (w : jmW) : rn 240 (83, lv, st, w) = rn 240 (84, lv, .inl (1) :: st, w) := q_iconst (jd_of jb_240 dX9_leads_83)
theorem p240_84 (lv : jmL) (st : List jmV) (w : jmW) (x y : Int) : rn 240 (84, lv, .inl y :: .inl x :: st, w) = rn 240 (85, lv, .inl (x + y) :: st, w) := q_iadd (jd_of jb_240 dX9_leads_84)
theorem p240_85 (lv : jmL) (st : List jmV) (w : jmW) : rn 240 (85, lv, st, w) = jq_ldi 240 86 lv st w (jg lv 2) := q_iload_n (jd_of jb_240 dX9_leads_85) rfl
theorem p240_86 (lv : jmL) (st : List jmV) (w : jmW) : rn 240 (86, lv, st, w) = rn 240 (87, lv, .inl (2) :: st, w) := q_iconst (jd_of jb_240 dX9_leads_86)
theorem p240_87 (lv : jmL) (st : List jmV) (w : jmW) (x y : Int) : rn 240 (87, lv, .inl y :: .inl x :: st, w) = rn 240 (88, lv, .inl (x + y) :: st, w) := q_iadd (jd_of jb_240 dX9_leads_87)
theorem p240_88 (lv : jmL) (st : List jmV) (w : jmW) (b : Nat) (x1 : Option Nat) (x2 : Int) (x3 : Int) (x4 : Int) (x5 : Int) : rn 240 (88, lv, .inl x5 :: .inl x4 :: .inl x3 :: .inl x2 :: .inr (.inr x1) :: jvr b :: st, w) = jq_s (mS w b) (1, 9, 0) (jq_b (decide (jwd st ≤ 8)) (jq_c 240 91 lv st (rn 241 (0, [(0, jvr b), (1, .inr (.inr x1)), (2, .inl x2), (3, .inl x3), (4, .inl x4), (5, .inl x5)], [], w)))) := q_callv (as := [.inr (.inr x1), .inl x2, .inl x3, .inl x4, .inl x5]) (rest := st) (jd_of jb_240 dX9_leads_88) jo_240 jk_9_416 rfl rfl rfl jo_241 jf_240_241 (Nat.le_of_ble_eq_true rfl)
theorem p240_91 (lv : jmL) (w : jmW) (x : Int) : rn 240 (91, lv, [.inl x], w) = some (some (.inl x), w) := q_ireturn (jd_of jb_240 dX9_leads_91) jr_240
theorem p240_92 (lv : jmL) (st : List jmV) (w : jmW) : rn 240 (92, lv, st, w) = jq_lda 240 93 lv st w (jg lv 0) := q_aload_n (jd_of jb_240 dX9_leads_92) rfl
theorem p240_93 (lv : jmL) (st : List jmV) (w : jmW) : rn 240 (93, lv, st, w) = jq_lda 240 94 lv st w (jg lv 1) := q_aload_n (jd_of jb_240 dX9_leads_93) rfl
theorem p240_94 (lv : jmL) (st : List jmV) (w : jmW) (b : Nat) (x1 : Option Nat) : rn 240 (94, lv, .inr (.inr x1) :: jvr b :: st, w) = jq_s (mS w b) (1, 9, 0) (jq_b (decide (jwd st ≤ 8)) (jq_c 240 97 lv st (rn 245 (0, [(0, jvr b), (1, .inr (.inr x1))], [], w)))) := q_callv (as := [.inr (.inr x1)]) (rest := st) (jd_of jb_240 dX9_leads_94) jo_240 jk_9_420 rfl rfl rfl jo_245 jf_240_245 (Nat.le_of_ble_eq_true rfl)
theorem p240_97 (lv : jmL) (w : jmW) (x : Int) : rn 240 (97, lv, [.inl x], w) = some (some (.inl x), w) := q_ireturn (jd_of jb_240 dX9_leads_97) jr_240
theorem p240_98 (lv : jmL) (st : List jmV) (w : jmW) : rn 240 (98, lv, st, w) = jq_lda 240 99 lv st w (jg lv 0) := q_aload_n (jd_of jb_240 dX9_leads_98) rfl
theorem p240_99 (lv : jmL) (st : List jmV) (w : jmW) : rn 240 (99, lv, st, w) = jq_lda 240 100 lv st w (jg lv 1) := q_aload_n (jd_of jb_240 dX9_leads_99) rfl
theorem p240_100 (lv : jmL) (st : List jmV) (w : jmW) (b : Nat) (x1 : Option Nat) : rn 240 (100, lv, .inr (.inr x1) :: jvr b :: st, w) = jq_s (mS w b) (1, 9, 0) (jq_b (decide (jwd st ≤ 8)) (jq_c 240 103 lv st (rn 247 (0, [(0, jvr b), (1, .inr (.inr x1))], [], w)))) := q_callv (as := [.inr (.inr x1)]) (rest := st) (jd_of jb_240 dX9_leads_100) jo_240 jk_9_424 rfl rfl rfl jo_247 jf_240_247 (Nat.le_of_ble_eq_true rfl)
theorem p240_103 (lv : jmL) (w : jmW) (x : Int) : rn 240 (103, lv, [.inl x], w) = some (some (.inl x), w) := q_ireturn (jd_of jb_240 dX9_leads_103) jr_240
theorem p240_104 (lv : jmL) (st : List jmV) (w : jmW) : rn 240 (104, lv, st, w) = jq_lda 240 105 lv st w (jg lv 0) := q_aload_n (jd_of jb_240 dX9_leads_104) rfl
theorem p240_105 (lv : jmL) (st : List jmV) (w : jmW) : rn 240 (105, lv, st, w) = jq_lda 240 106 lv st w (jg lv 1) := q_aload_n (jd_of jb_240 dX9_leads_105) rfl
theorem p240_106 (lv : jmL) (st : List jmV) (w : jmW) (b : Nat) (x1 : Option Nat) : rn 240 (106, lv, .inr (.inr x1) :: jvr b :: st, w) = jq_s (mS w b) (1, 9, 0) (jq_b (decide (jwd st ≤ 8)) (jq_c 240 109 lv st (rn 249 (0, [(0, jvr b), (1, .inr (.inr x1))], [], w)))) := q_callv (as := [.inr (.inr x1)]) (rest := st) (jd_of jb_240 dX9_leads_106) jo_240 jk_9_427 rfl rfl rfl jo_249 jf_240_249 (Nat.le_of_ble_eq_true rfl)
theorem p240_109 (lv : jmL) (w : jmW) (x : Int) : rn 240 (109, lv, [.inl x], w) = some (some (.inl x), w) := q_ireturn (jd_of jb_240 dX9_leads_109) jr_240
theorem p241_0 (lv : jmL) (st : List jmV) (w : jmW) : rn 241 (0, lv, st, w) = jq_lda 241 1 lv st w (jg lv 0) := q_aload_n (jd_of jb_241 dX9_firstSide_0) rfl
theorem p241_1 (lv : jmL) (st : List jmV) (w : jmW) : rn 241 (1, lv, st, w) = jq_lda 241 2 lv st w (jg lv 1) := q_aload_n (jd_of jb_241 dX9_firstSide_1) rfl
theorem p241_2 (lv : jmL) (st : List jmV) (w : jmW) : rn 241 (2, lv, st, w) = jq_ldi 241 3 lv st w (jg lv 2) := q_iload_n (jd_of jb_241 dX9_firstSide_2) rfl
theorem p241_3 (lv : jmL) (st : List jmV) (w : jmW) (b : Nat) (x1 : Option Nat) (x2 : Int) : rn 241 (3, lv, .inl x2 :: .inr (.inr x1) :: jvr b :: st, w) = jq_s (mS w b) (1, 9, 0) (jq_b (decide (jwd st ≤ 8)) (jq_c 241 6 lv st (rn 242 (0, [(0, jvr b), (1, .inr (.inr x1)), (2, .inl x2)], [], w)))) := q_callv (as := [.inr (.inr x1), .inl x2]) (rest := st) (jd_of jb_241 dX9_firstSide_3) jo_241 jk_9_430 rfl rfl rfl jo_242 jf_241_242 (Nat.le_of_ble_eq_true rfl)
theorem p241_6 (lv : jmL) (st : List jmV) (w : jmW) (x : Int) : rn 241 (6, lv, .inl x :: st, w) = if jw x = 0 then rn 241 (15, lv, st, w) else rn 241 (9, lv, st, w) := q_if_eq (jd_of jb_241 dX9_firstSide_6) (by decide)
theorem p241_9 (lv : jmL) (st : List jmV) (w : jmW) : rn 241 (9, lv, st, w) = jq_ldi 241 10 lv st w (jg lv 2) := q_iload_n (jd_of jb_241 dX9_firstSide_9) rfl
theorem p241_10 (lv : jmL) (st : List jmV) (w : jmW) : rn 241 (10, lv, st, w) = rn 241 (11, lv, .inl (3) :: st, w) := q_iconst (jd_of jb_241 dX9_firstSide_10)
theorem p241_11 (lv : jmL) (st : List jmV) (w : jmW) (x y : Int) : rn 241 (11, lv, .inl y :: .inl x :: st, w) = rn 241 (12, lv, .inl (ji_and x y) :: st, w) := q_iand (jd_of jb_241 dX9_firstSide_11)
theorem p241_12 (lv : jmL) (st : List jmV) (w : jmW) : rn 241 (12, lv, st, w) = rn 241 (65, lv, st, w) := q_goto (jd_of jb_241 dX9_firstSide_12) (by decide)
theorem p241_15 (lv : jmL) (st : List jmV) (w : jmW) : rn 241 (15, lv, st, w) = jq_lda 241 16 lv st w (jg lv 0) := q_aload_n (jd_of jb_241 dX9_firstSide_15) rfl
theorem p241_16 (lv : jmL) (st : List jmV) (w : jmW) : rn 241 (16, lv, st, w) = jq_lda 241 17 lv st w (jg lv 1) := q_aload_n (jd_of jb_241 dX9_firstSide_16) rfl
theorem p241_17 (lv : jmL) (st : List jmV) (w : jmW) : rn 241 (17, lv, st, w) = jq_ldi 241 18 lv st w (jg lv 3) := q_iload_n (jd_of jb_241 dX9_firstSide_17) rfl
theorem p241_18 (lv : jmL) (st : List jmV) (w : jmW) (b : Nat) (x1 : Option Nat) (x2 : Int) : rn 241 (18, lv, .inl x2 :: .inr (.inr x1) :: jvr b :: st, w) = jq_s (mS w b) (1, 9, 0) (jq_b (decide (jwd st ≤ 8)) (jq_c 241 21 lv st (rn 242 (0, [(0, jvr b), (1, .inr (.inr x1)), (2, .inl x2)], [], w)))) := q_callv (as := [.inr (.inr x1), .inl x2]) (rest := st) (jd_of jb_241 dX9_firstSide_18) jo_241 jk_9_430 rfl rfl rfl jo_242 jf_241_242 (Nat.le_of_ble_eq_true rfl)
theorem p241_21 (lv : jmL) (st : List jmV) (w : jmW) (x : Int) : rn 241 (21, lv, .inl x :: st, w) = if jw x = 0 then rn 241 (30, lv, st, w) else rn 241 (24, lv, st, w) := q_if_eq (jd_of jb_241 dX9_firstSide_21) (by decide)
theorem p241_24 (lv : jmL) (st : List jmV) (w : jmW) : rn 241 (24, lv, st, w) = jq_ldi 241 25 lv st w (jg lv 3) := q_iload_n (jd_of jb_241 dX9_firstSide_24) rfl
theorem p241_25 (lv : jmL) (st : List jmV) (w : jmW) : rn 241 (25, lv, st, w) = rn 241 (26, lv, .inl (3) :: st, w) := q_iconst (jd_of jb_241 dX9_firstSide_25)
theorem p241_26 (lv : jmL) (st : List jmV) (w : jmW) (x y : Int) : rn 241 (26, lv, .inl y :: .inl x :: st, w) = rn 241 (27, lv, .inl (ji_and x y) :: st, w) := q_iand (jd_of jb_241 dX9_firstSide_26)
theorem p241_27 (lv : jmL) (st : List jmV) (w : jmW) : rn 241 (27, lv, st, w) = rn 241 (65, lv, st, w) := q_goto (jd_of jb_241 dX9_firstSide_27) (by decide)
theorem p241_30 (lv : jmL) (st : List jmV) (w : jmW) : rn 241 (30, lv, st, w) = jq_lda 241 31 lv st w (jg lv 0) := q_aload_n (jd_of jb_241 dX9_firstSide_30) rfl
theorem p241_31 (lv : jmL) (st : List jmV) (w : jmW) : rn 241 (31, lv, st, w) = jq_lda 241 32 lv st w (jg lv 1) := q_aload_n (jd_of jb_241 dX9_firstSide_31) rfl
theorem p241_32 (lv : jmL) (st : List jmV) (w : jmW) : rn 241 (32, lv, st, w) = jq_ldi 241 34 lv st w (jg lv 4) := q_iload (jd_of jb_241 dX9_firstSide_32)
theorem p241_34 (lv : jmL) (st : List jmV) (w : jmW) (b : Nat) (x1 : Option Nat) (x2 : Int) : rn 241 (34, lv, .inl x2 :: .inr (.inr x1) :: jvr b :: st, w) = jq_s (mS w b) (1, 9, 0) (jq_b (decide (jwd st ≤ 8)) (jq_c 241 37 lv st (rn 242 (0, [(0, jvr b), (1, .inr (.inr x1)), (2, .inl x2)], [], w)))) := q_callv (as := [.inr (.inr x1), .inl x2]) (rest := st) (jd_of jb_241 dX9_firstSide_34) jo_241 jk_9_430 rfl rfl rfl jo_242 jf_241_242 (Nat.le_of_ble_eq_true rfl)
theorem p241_37 (lv : jmL) (st : List jmV) (w : jmW) (x : Int) : rn 241 (37, lv, .inl x :: st, w) = if jw x = 0 then rn 241 (47, lv, st, w) else rn 241 (40, lv, st, w) := q_if_eq (jd_of jb_241 dX9_firstSide_37) (by decide)
theorem p241_40 (lv : jmL) (st : List jmV) (w : jmW) : rn 241 (40, lv, st, w) = jq_ldi 241 42 lv st w (jg lv 4) := q_iload (jd_of jb_241 dX9_firstSide_40)
theorem p241_42 (lv : jmL) (st : List jmV) (w : jmW) : rn 241 (42, lv, st, w) = rn 241 (43, lv, .inl (3) :: st, w) := q_iconst (jd_of jb_241 dX9_firstSide_42)
theorem p241_43 (lv : jmL) (st : List jmV) (w : jmW) (x y : Int) : rn 241 (43, lv, .inl y :: .inl x :: st, w) = rn 241 (44, lv, .inl (ji_and x y) :: st, w) := q_iand (jd_of jb_241 dX9_firstSide_43)
theorem p241_44 (lv : jmL) (st : List jmV) (w : jmW) : rn 241 (44, lv, st, w) = rn 241 (65, lv, st, w) := q_goto (jd_of jb_241 dX9_firstSide_44) (by decide)
theorem p241_47 (lv : jmL) (st : List jmV) (w : jmW) : rn 241 (47, lv, st, w) = jq_lda 241 48 lv st w (jg lv 0) := q_aload_n (jd_of jb_241 dX9_firstSide_47) rfl
theorem p241_48 (lv : jmL) (st : List jmV) (w : jmW) : rn 241 (48, lv, st, w) = jq_lda 241 49 lv st w (jg lv 1) := q_aload_n (jd_of jb_241 dX9_firstSide_48) rfl
theorem p241_49 (lv : jmL) (st : List jmV) (w : jmW) : rn 241 (49, lv, st, w) = jq_ldi 241 51 lv st w (jg lv 5) := q_iload (jd_of jb_241 dX9_firstSide_49)
theorem p241_51 (lv : jmL) (st : List jmV) (w : jmW) (b : Nat) (x1 : Option Nat) (x2 : Int) : rn 241 (51, lv, .inl x2 :: .inr (.inr x1) :: jvr b :: st, w) = jq_s (mS w b) (1, 9, 0) (jq_b (decide (jwd st ≤ 8)) (jq_c 241 54 lv st (rn 242 (0, [(0, jvr b), (1, .inr (.inr x1)), (2, .inl x2)], [], w)))) := q_callv (as := [.inr (.inr x1), .inl x2]) (rest := st) (jd_of jb_241 dX9_firstSide_51) jo_241 jk_9_430 rfl rfl rfl jo_242 jf_241_242 (Nat.le_of_ble_eq_true rfl)
theorem p241_54 (lv : jmL) (st : List jmV) (w : jmW) (x : Int) : rn 241 (54, lv, .inl x :: st, w) = if jw x = 0 then rn 241 (64, lv, st, w) else rn 241 (57, lv, st, w) := q_if_eq (jd_of jb_241 dX9_firstSide_54) (by decide)
theorem p241_57 (lv : jmL) (st : List jmV) (w : jmW) : rn 241 (57, lv, st, w) = jq_ldi 241 59 lv st w (jg lv 5) := q_iload (jd_of jb_241 dX9_firstSide_57)
theorem p241_59 (lv : jmL) (st : List jmV) (w : jmW) : rn 241 (59, lv, st, w) = rn 241 (60, lv, .inl (3) :: st, w) := q_iconst (jd_of jb_241 dX9_firstSide_59)
theorem p241_60 (lv : jmL) (st : List jmV) (w : jmW) (x y : Int) : rn 241 (60, lv, .inl y :: .inl x :: st, w) = rn 241 (61, lv, .inl (ji_and x y) :: st, w) := q_iand (jd_of jb_241 dX9_firstSide_60)
theorem p241_61 (lv : jmL) (st : List jmV) (w : jmW) : rn 241 (61, lv, st, w) = rn 241 (65, lv, st, w) := q_goto (jd_of jb_241 dX9_firstSide_61) (by decide)
theorem p241_64 (lv : jmL) (st : List jmV) (w : jmW) : rn 241 (64, lv, st, w) = rn 241 (65, lv, .inl (-1) :: st, w) := q_iconst (jd_of jb_241 dX9_firstSide_64)
theorem p241_65 (lv : jmL) (w : jmW) (x : Int) : rn 241 (65, lv, [.inl x], w) = some (some (.inl x), w) := q_ireturn (jd_of jb_241 dX9_firstSide_65) jr_241
theorem p242_0 (lv : jmL) (st : List jmV) (w : jmW) : rn 242 (0, lv, st, w) = jq_lda 242 1 lv st w (jg lv 0) := q_aload_n (jd_of jb_242 dX9_canGo_0) rfl
theorem p242_1 (lv : jmL) (st : List jmV) (w : jmW) (a : Nat) : rn 242 (1, lv, jvr a :: st, w) = jq_gs (mS w a) (1, 9, 0) 242 4 lv (.inr (.inr (mR w a 3)) :: st) (w) := q_getf (v := fun w a => .inr (.inr (mR w a 3))) (jd_of jb_242 dX9_canGo_1) jo_242 jk_9_389 (fun _ _ => rfl)
theorem p242_4 (lv : jmL) (st : List jmV) (w : jmW) : rn 242 (4, lv, st, w) = jq_lda 242 5 lv st w (jg lv 1) := q_aload_n (jd_of jb_242 dX9_canGo_4) rfl
theorem p242_5 (lv : jmL) (st : List jmV) (w : jmW) : rn 242 (5, lv, st, w) = rn 242 (6, lv, .inl (0) :: st, w) := q_iconst (jd_of jb_242 dX9_canGo_5)
theorem p242_6 (lv : jmL) (st : List jmV) (w : jmW) : rn 242 (6, lv, st, w) = jq_lda 242 7 lv st w (jg lv 1) := q_aload_n (jd_of jb_242 dX9_canGo_6) rfl
theorem p242_7 (lv : jmL) (st : List jmV) (w : jmW) : rn 242 (7, lv, st, w) = rn 242 (10, lv, .inl (288) :: st, w) := q_sipush (jd_of jb_242 dX9_canGo_7) (by decide +kernel)
theorem p242_10 (lv : jmL) (st : List jmV) (w : jmW) (a : Nat) (j : Int) : rn 242 (10, lv, .inl j :: jvr a :: st, w) = jq_gr (mS w a) 0 j 242 11 lv (.inl (mI w a (jix j)) :: st) (w) := q_iald (jd_of jb_242 dX9_canGo_10)
theorem p242_11 (lv : jmL) (st : List jmV) (w : jmW) (x y : Int) : rn 242 (11, lv, .inl y :: .inl x :: st, w) = rn 242 (12, lv, .inl (x + y) :: st, w) := q_iadd (jd_of jb_242 dX9_canGo_11)
theorem p242_12 (lv : jmL) (st : List jmV) (w : jmW) : rn 242 (12, lv, st, w) = rn 242 (13, lv, .inl (1) :: st, w) := q_iconst (jd_of jb_242 dX9_canGo_12)
theorem p242_13 (lv : jmL) (st : List jmV) (w : jmW) (x y : Int) : rn 242 (13, lv, .inl y :: .inl x :: st, w) = rn 242 (14, lv, .inl (x - y) :: st, w) := q_isub (jd_of jb_242 dX9_canGo_13)
theorem p242_14 (lv : jmL) (st : List jmV) (w : jmW) (a : Nat) (j : Int) : rn 242 (14, lv, .inl j :: jvr a :: st, w) = jq_gr (mS w a) 0 j 242 15 lv (.inl (mI w a (jix j)) :: st) (w) := q_iald (jd_of jb_242 dX9_canGo_14)
theorem p242_15 (lv : jmL) (st : List jmV) (w : jmW) : rn 242 (15, lv, st, w) = jq_ldi 242 16 lv st w (jg lv 2) := q_iload_n (jd_of jb_242 dX9_canGo_15) rfl
theorem p242_16 (lv : jmL) (st : List jmV) (w : jmW) (b : Nat) (x1 : Int) (x2 : Int) : rn 242 (16, lv, .inl x2 :: .inl x1 :: jvr b :: st, w) = jq_s (mS w b) (1, 8, 0) (jq_b (decide (jwd st ≤ 8)) (jq_c 242 19 lv st (rn 209 (0, [(0, jvr b), (1, .inl x1), (2, .inl x2)], [], w)))) := q_callv (as := [.inl x1, .inl x2]) (rest := st) (jd_of jb_242 dX9_canGo_16) jo_242 jk_9_364 rfl rfl rfl jo_209 jf_242_209 (Nat.le_of_ble_eq_true rfl)
theorem p242_19 (lv : jmL) (st : List jmV) (w : jmW) (x : Int) : rn 242 (19, lv, .inl x :: st, w) = rn 242 (20, js lv 3 (.inl x), st, w) := q_istore_n (jd_of jb_242 dX9_canGo_19) rfl (by rw [jm_242]; decide)
theorem p242_20 (lv : jmL) (st : List jmV) (w : jmW) : rn 242 (20, lv, st, w) = jq_lda 242 21 lv st w (jg lv 0) := q_aload_n (jd_of jb_242 dX9_canGo_20) rfl
theorem p242_21 (lv : jmL) (st : List jmV) (w : jmW) (a : Nat) : rn 242 (21, lv, jvr a :: st, w) = jq_gs (mS w a) (1, 9, 0) 242 24 lv (.inr (.inr (mR w a 3)) :: st) (w) := q_getf (v := fun w a => .inr (.inr (mR w a 3))) (jd_of jb_242 dX9_canGo_21) jo_242 jk_9_389 (fun _ _ => rfl)
theorem p242_24 (lv : jmL) (st : List jmV) (w : jmW) : rn 242 (24, lv, st, w) = jq_ldi 242 25 lv st w (jg lv 3) := q_iload_n (jd_of jb_242 dX9_canGo_24) rfl
theorem p242_25 (lv : jmL) (st : List jmV) (w : jmW) (b : Nat) (x1 : Int) : rn 242 (25, lv, .inl x1 :: jvr b :: st, w) = jq_s (mS w b) (1, 8, 0) (jq_b (decide (jwd st ≤ 8)) (jq_c 242 28 lv st (rn 208 (0, [(0, jvr b), (1, .inl x1)], [], w)))) := q_callv (as := [.inl x1]) (rest := st) (jd_of jb_242 dX9_canGo_25) jo_242 jk_9_361 rfl rfl rfl jo_208 jf_242_208 (Nat.le_of_ble_eq_true rfl)
theorem p242_28 (lv : jmL) (st : List jmV) (w : jmW) (x : Int) : rn 242 (28, lv, .inl x :: st, w) = if jw x = 0 then rn 242 (31, lv, st, w) else rn 242 (33, lv, st, w) := q_if_ne (jd_of jb_242 dX9_canGo_28) (by decide)
theorem p242_31 (lv : jmL) (st : List jmV) (w : jmW) : rn 242 (31, lv, st, w) = rn 242 (32, lv, .inl (0) :: st, w) := q_iconst (jd_of jb_242 dX9_canGo_31)
theorem p242_32 (lv : jmL) (w : jmW) (x : Int) : rn 242 (32, lv, [.inl x], w) = jq_b (decide (x = 0 ∨ x = 1)) (some (some (.inl x), w)) := q_zreturn (jd_of jb_242 dX9_canGo_32) jr_242
theorem p242_33 (lv : jmL) (st : List jmV) (w : jmW) : rn 242 (33, lv, st, w) = jq_lda 242 34 lv st w (jg lv 0) := q_aload_n (jd_of jb_242 dX9_canGo_33) rfl
theorem p242_34 (lv : jmL) (st : List jmV) (w : jmW) (a : Nat) : rn 242 (34, lv, jvr a :: st, w) = jq_gs (mS w a) (1, 9, 0) 242 37 lv (.inr (.inr (mR w a 3)) :: st) (w) := q_getf (v := fun w a => .inr (.inr (mR w a 3))) (jd_of jb_242 dX9_canGo_34) jo_242 jk_9_389 (fun _ _ => rfl)
theorem p242_37 (lv : jmL) (st : List jmV) (w : jmW) (a : Nat) : rn 242 (37, lv, jvr a :: st, w) = jq_gs (mS w a) (1, 8, 0) 242 40 lv (.inl (mI w a 15) :: st) (w) := q_getf (v := fun w a => .inl (mI w a 15)) (jd_of jb_242 dX9_canGo_37) jo_242 jk_9_263 (fun _ _ => rfl)
theorem p242_40 (lv : jmL) (st : List jmV) (w : jmW) (x : Int) : rn 242 (40, lv, .inl x :: st, w) = if jw x = 0 then rn 242 (52, lv, st, w) else rn 242 (43, lv, st, w) := q_if_eq (jd_of jb_242 dX9_canGo_40) (by decide)
theorem p242_43 (lv : jmL) (st : List jmV) (w : jmW) : rn 242 (43, lv, st, w) = jq_lda 242 44 lv st w (jg lv 1) := q_aload_n (jd_of jb_242 dX9_canGo_43) rfl
theorem p242_44 (lv : jmL) (st : List jmV) (w : jmW) : rn 242 (44, lv, st, w) = jq_ldi 242 45 lv st w (jg lv 3) := q_iload_n (jd_of jb_242 dX9_canGo_44) rfl
theorem p242_45 (lv : jmL) (st : List jmV) (w : jmW) : rn 242 (45, lv, st, w) = rn 242 (46, lv, .inl (0) :: st, w) := q_iconst (jd_of jb_242 dX9_canGo_45)
theorem p242_46 (lv : jmL) (st : List jmV) (w : jmW) (x1 : Option Nat) (x2 : Int) (x3 : Int) : rn 242 (46, lv, .inl x3 :: .inl x2 :: .inr (.inr x1) :: st, w) = jq_b (decide (jwd st ≤ 8)) (jq_c 242 49 lv st (rn 243 (0, [(0, .inr (.inr x1)), (1, .inl x2), (2, .inl x3)], [], w))) := q_calls (as := [.inr (.inr x1), .inl x2, .inl x3]) (rest := st) (jd_of jb_242 dX9_canGo_46) jo_242 jk_9_405 rfl rfl rfl jf_242_243 (Nat.le_of_ble_eq_true rfl)
theorem p242_49 (lv : jmL) (st : List jmV) (w : jmW) (x : Int) : rn 242 (49, lv, .inl x :: st, w) = if jw x = 0 then rn 242 (52, lv, st, w) else rn 242 (54, lv, st, w) := q_if_ne (jd_of jb_242 dX9_canGo_49) (by decide)
theorem p242_52 (lv : jmL) (st : List jmV) (w : jmW) : rn 242 (52, lv, st, w) = rn 242 (53, lv, .inl (1) :: st, w) := q_iconst (jd_of jb_242 dX9_canGo_52)
theorem p242_53 (lv : jmL) (w : jmW) (x : Int) : rn 242 (53, lv, [.inl x], w) = jq_b (decide (x = 0 ∨ x = 1)) (some (some (.inl x), w)) := q_zreturn (jd_of jb_242 dX9_canGo_53) jr_242
theorem p242_54 (lv : jmL) (st : List jmV) (w : jmW) : rn 242 (54, lv, st, w) = jq_lda 242 55 lv st w (jg lv 1) := q_aload_n (jd_of jb_242 dX9_canGo_54) rfl
theorem p242_55 (lv : jmL) (st : List jmV) (w : jmW) : rn 242 (55, lv, st, w) = jq_ldi 242 56 lv st w (jg lv 3) := q_iload_n (jd_of jb_242 dX9_canGo_55) rfl
theorem p242_56 (lv : jmL) (st : List jmV) (w : jmW) (x1 : Option Nat) (x2 : Int) : rn 242 (56, lv, .inl x2 :: .inr (.inr x1) :: st, w) = jq_b (decide (jwd st ≤ 8)) (jq_c 242 59 lv st (rn 244 (0, [(0, .inr (.inr x1)), (1, .inl x2)], [], w))) := q_calls (as := [.inr (.inr x1), .inl x2]) (rest := st) (jd_of jb_242 dX9_canGo_56) jo_242 jk_9_412 rfl rfl rfl jf_242_244 (Nat.le_of_ble_eq_true rfl)
theorem p242_59 (lv : jmL) (w : jmW) (x : Int) : rn 242 (59, lv, [.inl x], w) = jq_b (decide (x = 0 ∨ x = 1)) (some (some (.inl x), w)) := q_zreturn (jd_of jb_242 dX9_canGo_59) jr_242
theorem p243_0 (lv : jmL) (st : List jmV) (w : jmW) : rn 243 (0, lv, st, w) = rn 243 (1, lv, .inl (0) :: st, w) := q_iconst (jd_of jb_243 dX9_isStoodOn_0)
theorem p243_1 (lv : jmL) (st : List jmV) (w : jmW) (x : Int) : rn 243 (1, lv, .inl x :: st, w) = rn 243 (2, js lv 3 (.inl x), st, w) := q_istore_n (jd_of jb_243 dX9_isStoodOn_1) rfl (by rw [jm_243]; decide)
theorem p243_2 (lv : jmL) (st : List jmV) (w : jmW) : rn 243 (2, lv, st, w) = jq_ldi 243 3 lv st w (jg lv 3) := q_iload_n (jd_of jb_243 dX9_isStoodOn_2) rfl
theorem p243_3 (lv : jmL) (st : List jmV) (w : jmW) : rn 243 (3, lv, st, w) = jq_lda 243 4 lv st w (jg lv 0) := q_aload_n (jd_of jb_243 dX9_isStoodOn_3) rfl
theorem p243_4 (lv : jmL) (st : List jmV) (w : jmW) : rn 243 (4, lv, st, w) = rn 243 (7, lv, .inl (289) :: st, w) := q_sipush (jd_of jb_243 dX9_isStoodOn_4) (by decide +kernel)
theorem p243_7 (lv : jmL) (st : List jmV) (w : jmW) (a : Nat) (j : Int) : rn 243 (7, lv, .inl j :: jvr a :: st, w) = jq_gr (mS w a) 0 j 243 8 lv (.inl (mI w a (jix j)) :: st) (w) := q_iald (jd_of jb_243 dX9_isStoodOn_7)
theorem p243_8 (lv : jmL) (st : List jmV) (w : jmW) (x y : Int) : rn 243 (8, lv, .inl y :: .inl x :: st, w) = if jw x < jw y then rn 243 (11, lv, st, w) else rn 243 (33, lv, st, w) := q_icmp_ge (jd_of jb_243 dX9_isStoodOn_8) (by decide)
theorem p243_11 (lv : jmL) (st : List jmV) (w : jmW) : rn 243 (11, lv, st, w) = jq_ldi 243 12 lv st w (jg lv 3) := q_iload_n (jd_of jb_243 dX9_isStoodOn_11) rfl
theorem p243_12 (lv : jmL) (st : List jmV) (w : jmW) : rn 243 (12, lv, st, w) = jq_ldi 243 13 lv st w (jg lv 2) := q_iload_n (jd_of jb_243 dX9_isStoodOn_12) rfl
theorem p243_13 (lv : jmL) (st : List jmV) (w : jmW) (x y : Int) : rn 243 (13, lv, .inl y :: .inl x :: st, w) = if jw x = jw y then rn 243 (27, lv, st, w) else rn 243 (16, lv, st, w) := q_icmp_eq (jd_of jb_243 dX9_isStoodOn_13) (by decide)
theorem p243_16 (lv : jmL) (st : List jmV) (w : jmW) : rn 243 (16, lv, st, w) = jq_lda 243 17 lv st w (jg lv 0) := q_aload_n (jd_of jb_243 dX9_isStoodOn_16) rfl
theorem p243_17 (lv : jmL) (st : List jmV) (w : jmW) : rn 243 (17, lv, st, w) = jq_ldi 243 18 lv st w (jg lv 3) := q_iload_n (jd_of jb_243 dX9_isStoodOn_17) rfl
theorem p243_18 (lv : jmL) (st : List jmV) (w : jmW) (x1 : Option Nat) (x2 : Int) : rn 243 (18, lv, .inl x2 :: .inr (.inr x1) :: st, w) = jq_b (decide (jwd st ≤ 8)) (jq_c 243 21 lv st (rn 221 (0, [(0, .inr (.inr x1)), (1, .inl x2)], [], w))) := q_calls (as := [.inr (.inr x1), .inl x2]) (rest := st) (jd_of jb_243 dX9_isStoodOn_18) jo_243 jk_9_409 rfl rfl rfl jf_243_221 (Nat.le_of_ble_eq_true rfl)
theorem p243_21 (lv : jmL) (st : List jmV) (w : jmW) : rn 243 (21, lv, st, w) = jq_ldi 243 22 lv st w (jg lv 1) := q_iload_n (jd_of jb_243 dX9_isStoodOn_21) rfl
theorem p243_22 (lv : jmL) (st : List jmV) (w : jmW) (x y : Int) : rn 243 (22, lv, .inl y :: .inl x :: st, w) = if jw x = jw y then rn 243 (25, lv, st, w) else rn 243 (27, lv, st, w) := q_icmp_ne (jd_of jb_243 dX9_isStoodOn_22) (by decide)
theorem p243_25 (lv : jmL) (st : List jmV) (w : jmW) : rn 243 (25, lv, st, w) = rn 243 (26, lv, .inl (1) :: st, w) := q_iconst (jd_of jb_243 dX9_isStoodOn_25)
theorem p243_26 (lv : jmL) (w : jmW) (x : Int) : rn 243 (26, lv, [.inl x], w) = jq_b (decide (x = 0 ∨ x = 1)) (some (some (.inl x), w)) := q_zreturn (jd_of jb_243 dX9_isStoodOn_26) jr_243
theorem p243_27 (lv : jmL) (st : List jmV) (w : jmW) : rn 243 (27, lv, st, w) = jq_inc 243 30 lv 3 (1) st w (jg lv 3) := q_iinc (jd_of jb_243 dX9_isStoodOn_27) (by rw [jm_243]; decide)
theorem p243_30 (lv : jmL) (st : List jmV) (w : jmW) : rn 243 (30, lv, st, w) = rn 243 (2, lv, st, w) := q_goto (jd_of jb_243 dX9_isStoodOn_30) (by decide)
theorem p243_33 (lv : jmL) (st : List jmV) (w : jmW) : rn 243 (33, lv, st, w) = rn 243 (34, lv, .inl (0) :: st, w) := q_iconst (jd_of jb_243 dX9_isStoodOn_33)
theorem p243_34 (lv : jmL) (w : jmW) (x : Int) : rn 243 (34, lv, [.inl x], w) = jq_b (decide (x = 0 ∨ x = 1)) (some (some (.inl x), w)) := q_zreturn (jd_of jb_243 dX9_isStoodOn_34) jr_243
theorem p244_0 (lv : jmL) (st : List jmV) (w : jmW) : rn 244 (0, lv, st, w) = jq_lda 244 1 lv st w (jg lv 0) := q_aload_n (jd_of jb_244 dX9_closes_0) rfl
theorem p244_1 (lv : jmL) (st : List jmV) (w : jmW) : rn 244 (1, lv, st, w) = rn 244 (4, lv, .inl (289) :: st, w) := q_sipush (jd_of jb_244 dX9_closes_1) (by decide +kernel)
theorem p244_4 (lv : jmL) (st : List jmV) (w : jmW) (a : Nat) (j : Int) : rn 244 (4, lv, .inl j :: jvr a :: st, w) = jq_gr (mS w a) 0 j 244 5 lv (.inl (mI w a (jix j)) :: st) (w) := q_iald (jd_of jb_244 dX9_closes_4)
theorem p244_5 (lv : jmL) (st : List jmV) (w : jmW) : rn 244 (5, lv, st, w) = rn 244 (6, lv, .inl (2) :: st, w) := q_iconst (jd_of jb_244 dX9_closes_5)
theorem p244_6 (lv : jmL) (st : List jmV) (w : jmW) (x y : Int) : rn 244 (6, lv, .inl y :: .inl x :: st, w) = if jw y < jw x then rn 244 (9, lv, st, w) else rn 244 (28, lv, st, w) := q_icmp_le (jd_of jb_244 dX9_closes_6) (by decide)
theorem p244_9 (lv : jmL) (st : List jmV) (w : jmW) : rn 244 (9, lv, st, w) = jq_lda 244 10 lv st w (jg lv 0) := q_aload_n (jd_of jb_244 dX9_closes_9) rfl
theorem p244_10 (lv : jmL) (st : List jmV) (w : jmW) : rn 244 (10, lv, st, w) = jq_lda 244 11 lv st w (jg lv 0) := q_aload_n (jd_of jb_244 dX9_closes_10) rfl
theorem p244_11 (lv : jmL) (st : List jmV) (w : jmW) : rn 244 (11, lv, st, w) = rn 244 (14, lv, .inl (289) :: st, w) := q_sipush (jd_of jb_244 dX9_closes_11) (by decide +kernel)
theorem p244_14 (lv : jmL) (st : List jmV) (w : jmW) (a : Nat) (j : Int) : rn 244 (14, lv, .inl j :: jvr a :: st, w) = jq_gr (mS w a) 0 j 244 15 lv (.inl (mI w a (jix j)) :: st) (w) := q_iald (jd_of jb_244 dX9_closes_14)
theorem p244_15 (lv : jmL) (st : List jmV) (w : jmW) : rn 244 (15, lv, st, w) = rn 244 (16, lv, .inl (1) :: st, w) := q_iconst (jd_of jb_244 dX9_closes_15)
theorem p244_16 (lv : jmL) (st : List jmV) (w : jmW) (x y : Int) : rn 244 (16, lv, .inl y :: .inl x :: st, w) = rn 244 (17, lv, .inl (x - y) :: st, w) := q_isub (jd_of jb_244 dX9_closes_16)
theorem p244_17 (lv : jmL) (st : List jmV) (w : jmW) (x1 : Option Nat) (x2 : Int) : rn 244 (17, lv, .inl x2 :: .inr (.inr x1) :: st, w) = jq_b (decide (jwd st ≤ 8)) (jq_c 244 20 lv st (rn 221 (0, [(0, .inr (.inr x1)), (1, .inl x2)], [], w))) := q_calls (as := [.inr (.inr x1), .inl x2]) (rest := st) (jd_of jb_244 dX9_closes_17) jo_244 jk_9_409 rfl rfl rfl jf_244_221 (Nat.le_of_ble_eq_true rfl)
theorem p244_20 (lv : jmL) (st : List jmV) (w : jmW) : rn 244 (20, lv, st, w) = jq_ldi 244 21 lv st w (jg lv 1) := q_iload_n (jd_of jb_244 dX9_closes_20) rfl
theorem p244_21 (lv : jmL) (st : List jmV) (w : jmW) (x y : Int) : rn 244 (21, lv, .inl y :: .inl x :: st, w) = if jw x = jw y then rn 244 (24, lv, st, w) else rn 244 (28, lv, st, w) := q_icmp_ne (jd_of jb_244 dX9_closes_21) (by decide)
theorem p244_24 (lv : jmL) (st : List jmV) (w : jmW) : rn 244 (24, lv, st, w) = rn 244 (25, lv, .inl (1) :: st, w) := q_iconst (jd_of jb_244 dX9_closes_24)
theorem p244_25 (lv : jmL) (st : List jmV) (w : jmW) : rn 244 (25, lv, st, w) = rn 244 (29, lv, st, w) := q_goto (jd_of jb_244 dX9_closes_25) (by decide)
theorem p244_28 (lv : jmL) (st : List jmV) (w : jmW) : rn 244 (28, lv, st, w) = rn 244 (29, lv, .inl (0) :: st, w) := q_iconst (jd_of jb_244 dX9_closes_28)
theorem p244_29 (lv : jmL) (w : jmW) (x : Int) : rn 244 (29, lv, [.inl x], w) = jq_b (decide (x = 0 ∨ x = 1)) (some (some (.inl x), w)) := q_zreturn (jd_of jb_244 dX9_closes_29) jr_244
theorem p245_0 (lv : jmL) (st : List jmV) (w : jmW) : rn 245 (0, lv, st, w) = rn 245 (1, lv, .inl (0) :: st, w) := q_iconst (jd_of jb_245 dX9_sideByLot_0)
theorem p245_1 (lv : jmL) (st : List jmV) (w : jmW) (x : Int) : rn 245 (1, lv, .inl x :: st, w) = rn 245 (2, js lv 2 (.inl x), st, w) := q_istore_n (jd_of jb_245 dX9_sideByLot_1) rfl (by rw [jm_245]; decide)
theorem p245_2 (lv : jmL) (st : List jmV) (w : jmW) : rn 245 (2, lv, st, w) = rn 245 (3, lv, .inl (0) :: st, w) := q_iconst (jd_of jb_245 dX9_sideByLot_2)
theorem p245_3 (lv : jmL) (st : List jmV) (w : jmW) (x : Int) : rn 245 (3, lv, .inl x :: st, w) = rn 245 (4, js lv 3 (.inl x), st, w) := q_istore_n (jd_of jb_245 dX9_sideByLot_3) rfl (by rw [jm_245]; decide)
theorem p245_4 (lv : jmL) (st : List jmV) (w : jmW) : rn 245 (4, lv, st, w) = jq_ldi 245 5 lv st w (jg lv 3) := q_iload_n (jd_of jb_245 dX9_sideByLot_4) rfl
theorem p245_5 (lv : jmL) (st : List jmV) (w : jmW) : rn 245 (5, lv, st, w) = rn 245 (6, lv, .inl (4) :: st, w) := q_iconst (jd_of jb_245 dX9_sideByLot_5)
theorem p245_6 (lv : jmL) (st : List jmV) (w : jmW) (x y : Int) : rn 245 (6, lv, .inl y :: .inl x :: st, w) = if jw x < jw y then rn 245 (9, lv, st, w) else rn 245 (32, lv, st, w) := q_icmp_ge (jd_of jb_245 dX9_sideByLot_6) (by decide)
theorem p245_9 (lv : jmL) (st : List jmV) (w : jmW) : rn 245 (9, lv, st, w) = jq_ldi 245 10 lv st w (jg lv 2) := q_iload_n (jd_of jb_245 dX9_sideByLot_9) rfl
theorem p245_10 (lv : jmL) (st : List jmV) (w : jmW) : rn 245 (10, lv, st, w) = jq_lda 245 11 lv st w (jg lv 0) := q_aload_n (jd_of jb_245 dX9_sideByLot_10) rfl
theorem p245_11 (lv : jmL) (st : List jmV) (w : jmW) : rn 245 (11, lv, st, w) = jq_lda 245 12 lv st w (jg lv 1) := q_aload_n (jd_of jb_245 dX9_sideByLot_11) rfl
theorem p245_12 (lv : jmL) (st : List jmV) (w : jmW) : rn 245 (12, lv, st, w) = jq_ldi 245 13 lv st w (jg lv 3) := q_iload_n (jd_of jb_245 dX9_sideByLot_12) rfl
theorem p245_13 (lv : jmL) (st : List jmV) (w : jmW) (b : Nat) (x1 : Option Nat) (x2 : Int) : rn 245 (13, lv, .inl x2 :: .inr (.inr x1) :: jvr b :: st, w) = jq_s (mS w b) (1, 9, 0) (jq_b (decide (jwd st ≤ 8)) (jq_c 245 16 lv st (rn 242 (0, [(0, jvr b), (1, .inr (.inr x1)), (2, .inl x2)], [], w)))) := q_callv (as := [.inr (.inr x1), .inl x2]) (rest := st) (jd_of jb_245 dX9_sideByLot_13) jo_245 jk_9_430 rfl rfl rfl jo_242 jf_245_242 (Nat.le_of_ble_eq_true rfl)
theorem p245_16 (lv : jmL) (st : List jmV) (w : jmW) (x : Int) : rn 245 (16, lv, .inl x :: st, w) = if jw x = 0 then rn 245 (23, lv, st, w) else rn 245 (19, lv, st, w) := q_if_eq (jd_of jb_245 dX9_sideByLot_16) (by decide)
theorem p245_19 (lv : jmL) (st : List jmV) (w : jmW) : rn 245 (19, lv, st, w) = rn 245 (20, lv, .inl (1) :: st, w) := q_iconst (jd_of jb_245 dX9_sideByLot_19)
theorem p245_20 (lv : jmL) (st : List jmV) (w : jmW) : rn 245 (20, lv, st, w) = rn 245 (24, lv, st, w) := q_goto (jd_of jb_245 dX9_sideByLot_20) (by decide)
theorem p245_23 (lv : jmL) (st : List jmV) (w : jmW) : rn 245 (23, lv, st, w) = rn 245 (24, lv, .inl (0) :: st, w) := q_iconst (jd_of jb_245 dX9_sideByLot_23)
theorem p245_24 (lv : jmL) (st : List jmV) (w : jmW) (x y : Int) : rn 245 (24, lv, .inl y :: .inl x :: st, w) = rn 245 (25, lv, .inl (x + y) :: st, w) := q_iadd (jd_of jb_245 dX9_sideByLot_24)
theorem p245_25 (lv : jmL) (st : List jmV) (w : jmW) (x : Int) : rn 245 (25, lv, .inl x :: st, w) = rn 245 (26, js lv 2 (.inl x), st, w) := q_istore_n (jd_of jb_245 dX9_sideByLot_25) rfl (by rw [jm_245]; decide)
theorem p245_26 (lv : jmL) (st : List jmV) (w : jmW) : rn 245 (26, lv, st, w) = jq_inc 245 29 lv 3 (1) st w (jg lv 3) := q_iinc (jd_of jb_245 dX9_sideByLot_26) (by rw [jm_245]; decide)
theorem p245_29 (lv : jmL) (st : List jmV) (w : jmW) : rn 245 (29, lv, st, w) = rn 245 (4, lv, st, w) := q_goto (jd_of jb_245 dX9_sideByLot_29) (by decide)
theorem p245_32 (lv : jmL) (st : List jmV) (w : jmW) : rn 245 (32, lv, st, w) = jq_ldi 245 33 lv st w (jg lv 2) := q_iload_n (jd_of jb_245 dX9_sideByLot_32) rfl
theorem p245_33 (lv : jmL) (st : List jmV) (w : jmW) (x : Int) : rn 245 (33, lv, .inl x :: st, w) = if jw x = 0 then rn 245 (36, lv, st, w) else rn 245 (38, lv, st, w) := q_if_ne (jd_of jb_245 dX9_sideByLot_33) (by decide)
theorem p245_36 (lv : jmL) (st : List jmV) (w : jmW) : rn 245 (36, lv, st, w) = rn 245 (37, lv, .inl (-1) :: st, w) := q_iconst (jd_of jb_245 dX9_sideByLot_36)
theorem p245_37 (lv : jmL) (w : jmW) (x : Int) : rn 245 (37, lv, [.inl x], w) = some (some (.inl x), w) := q_ireturn (jd_of jb_245 dX9_sideByLot_37) jr_245
theorem p245_38 (lv : jmL) (st : List jmV) (w : jmW) : rn 245 (38, lv, st, w) = jq_lda 245 39 lv st w (jg lv 1) := q_aload_n (jd_of jb_245 dX9_sideByLot_38) rfl
theorem p245_39 (lv : jmL) (st : List jmV) (w : jmW) (x1 : Option Nat) : rn 245 (39, lv, .inr (.inr x1) :: st, w) = jq_b (decide (jwd st ≤ 8)) (jq_c 245 42 lv st (rn 246 (0, [(0, .inr (.inr x1))], [], w))) := q_calls (as := [.inr (.inr x1)]) (rest := st) (jd_of jb_245 dX9_sideByLot_39) jo_245 jk_9_439 rfl rfl rfl jf_245_246 (Nat.le_of_ble_eq_true rfl)
theorem p245_42 (lv : jmL) (st : List jmV) (w : jmW) : rn 245 (42, lv, st, w) = jq_ldi 245 43 lv st w (jg lv 2) := q_iload_n (jd_of jb_245 dX9_sideByLot_42) rfl
theorem p245_43 (lv : jmL) (st : List jmV) (w : jmW) (x y : Int) : rn 245 (43, lv, .inl y :: .inl x :: st, w) = if jw y = 0 then none else rn 245 (44, lv, .inl ((jw x).tmod (jw y)) :: st, w) := q_irem (jd_of jb_245 dX9_sideByLot_43)
theorem p245_44 (lv : jmL) (st : List jmV) (w : jmW) (x : Int) : rn 245 (44, lv, .inl x :: st, w) = rn 245 (45, js lv 3 (.inl x), st, w) := q_istore_n (jd_of jb_245 dX9_sideByLot_44) rfl (by rw [jm_245]; decide)
theorem p245_45 (lv : jmL) (st : List jmV) (w : jmW) : rn 245 (45, lv, st, w) = rn 245 (46, lv, .inl (0) :: st, w) := q_iconst (jd_of jb_245 dX9_sideByLot_45)
theorem p245_46 (lv : jmL) (st : List jmV) (w : jmW) (x : Int) : rn 245 (46, lv, .inl x :: st, w) = rn 245 (48, js lv 4 (.inl x), st, w) := q_istore (jd_of jb_245 dX9_sideByLot_46) (by rw [jm_245]; decide)
theorem p245_48 (lv : jmL) (st : List jmV) (w : jmW) : rn 245 (48, lv, st, w) = jq_lda 245 49 lv st w (jg lv 0) := q_aload_n (jd_of jb_245 dX9_sideByLot_48) rfl
theorem p245_49 (lv : jmL) (st : List jmV) (w : jmW) : rn 245 (49, lv, st, w) = jq_lda 245 50 lv st w (jg lv 1) := q_aload_n (jd_of jb_245 dX9_sideByLot_49) rfl
theorem p245_50 (lv : jmL) (st : List jmV) (w : jmW) : rn 245 (50, lv, st, w) = jq_ldi 245 52 lv st w (jg lv 4) := q_iload (jd_of jb_245 dX9_sideByLot_50)
theorem p245_52 (lv : jmL) (st : List jmV) (w : jmW) (b : Nat) (x1 : Option Nat) (x2 : Int) : rn 245 (52, lv, .inl x2 :: .inr (.inr x1) :: jvr b :: st, w) = jq_s (mS w b) (1, 9, 0) (jq_b (decide (jwd st ≤ 8)) (jq_c 245 55 lv st (rn 242 (0, [(0, jvr b), (1, .inr (.inr x1)), (2, .inl x2)], [], w)))) := q_callv (as := [.inr (.inr x1), .inl x2]) (rest := st) (jd_of jb_245 dX9_sideByLot_52) jo_245 jk_9_430 rfl rfl rfl jo_242 jf_245_242 (Nat.le_of_ble_eq_true rfl)
theorem p245_55 (lv : jmL) (st : List jmV) (w : jmW) (x : Int) : rn 245 (55, lv, .inl x :: st, w) = if jw x = 0 then rn 245 (62, lv, st, w) else rn 245 (58, lv, st, w) := q_if_eq (jd_of jb_245 dX9_sideByLot_55) (by decide)
theorem p245_58 (lv : jmL) (st : List jmV) (w : jmW) : rn 245 (58, lv, st, w) = jq_ldi 245 59 lv st w (jg lv 3) := q_iload_n (jd_of jb_245 dX9_sideByLot_58) rfl
theorem p245_59 (lv : jmL) (st : List jmV) (w : jmW) (x : Int) : rn 245 (59, lv, .inl x :: st, w) = if 0 < jw x then rn 245 (62, lv, st, w) else rn 245 (86, lv, st, w) := q_if_le (jd_of jb_245 dX9_sideByLot_59) (by decide)
theorem p245_62 (lv : jmL) (st : List jmV) (w : jmW) : rn 245 (62, lv, st, w) = jq_ldi 245 63 lv st w (jg lv 3) := q_iload_n (jd_of jb_245 dX9_sideByLot_62) rfl
theorem p245_63 (lv : jmL) (st : List jmV) (w : jmW) : rn 245 (63, lv, st, w) = jq_lda 245 64 lv st w (jg lv 0) := q_aload_n (jd_of jb_245 dX9_sideByLot_63) rfl
theorem p245_64 (lv : jmL) (st : List jmV) (w : jmW) : rn 245 (64, lv, st, w) = jq_lda 245 65 lv st w (jg lv 1) := q_aload_n (jd_of jb_245 dX9_sideByLot_64) rfl
theorem p245_65 (lv : jmL) (st : List jmV) (w : jmW) : rn 245 (65, lv, st, w) = jq_ldi 245 67 lv st w (jg lv 4) := q_iload (jd_of jb_245 dX9_sideByLot_65)
theorem p245_67 (lv : jmL) (st : List jmV) (w : jmW) (b : Nat) (x1 : Option Nat) (x2 : Int) : rn 245 (67, lv, .inl x2 :: .inr (.inr x1) :: jvr b :: st, w) = jq_s (mS w b) (1, 9, 0) (jq_b (decide (jwd st ≤ 8)) (jq_c 245 70 lv st (rn 242 (0, [(0, jvr b), (1, .inr (.inr x1)), (2, .inl x2)], [], w)))) := q_callv (as := [.inr (.inr x1), .inl x2]) (rest := st) (jd_of jb_245 dX9_sideByLot_67) jo_245 jk_9_430 rfl rfl rfl jo_242 jf_245_242 (Nat.le_of_ble_eq_true rfl)
theorem p245_70 (lv : jmL) (st : List jmV) (w : jmW) (x : Int) : rn 245 (70, lv, .inl x :: st, w) = if jw x = 0 then rn 245 (77, lv, st, w) else rn 245 (73, lv, st, w) := q_if_eq (jd_of jb_245 dX9_sideByLot_70) (by decide)
theorem p245_73 (lv : jmL) (st : List jmV) (w : jmW) : rn 245 (73, lv, st, w) = rn 245 (74, lv, .inl (1) :: st, w) := q_iconst (jd_of jb_245 dX9_sideByLot_73)
theorem p245_74 (lv : jmL) (st : List jmV) (w : jmW) : rn 245 (74, lv, st, w) = rn 245 (78, lv, st, w) := q_goto (jd_of jb_245 dX9_sideByLot_74) (by decide)
theorem p245_77 (lv : jmL) (st : List jmV) (w : jmW) : rn 245 (77, lv, st, w) = rn 245 (78, lv, .inl (0) :: st, w) := q_iconst (jd_of jb_245 dX9_sideByLot_77)
theorem p245_78 (lv : jmL) (st : List jmV) (w : jmW) (x y : Int) : rn 245 (78, lv, .inl y :: .inl x :: st, w) = rn 245 (79, lv, .inl (x - y) :: st, w) := q_isub (jd_of jb_245 dX9_sideByLot_78)
theorem p245_79 (lv : jmL) (st : List jmV) (w : jmW) (x : Int) : rn 245 (79, lv, .inl x :: st, w) = rn 245 (80, js lv 3 (.inl x), st, w) := q_istore_n (jd_of jb_245 dX9_sideByLot_79) rfl (by rw [jm_245]; decide)
theorem p245_80 (lv : jmL) (st : List jmV) (w : jmW) : rn 245 (80, lv, st, w) = jq_inc 245 83 lv 4 (1) st w (jg lv 4) := q_iinc (jd_of jb_245 dX9_sideByLot_80) (by rw [jm_245]; decide)
theorem p245_83 (lv : jmL) (st : List jmV) (w : jmW) : rn 245 (83, lv, st, w) = rn 245 (48, lv, st, w) := q_goto (jd_of jb_245 dX9_sideByLot_83) (by decide)
theorem p245_86 (lv : jmL) (st : List jmV) (w : jmW) : rn 245 (86, lv, st, w) = jq_ldi 245 88 lv st w (jg lv 4) := q_iload (jd_of jb_245 dX9_sideByLot_86)
theorem p245_88 (lv : jmL) (w : jmW) (x : Int) : rn 245 (88, lv, [.inl x], w) = some (some (.inl x), w) := q_ireturn (jd_of jb_245 dX9_sideByLot_88) jr_245
theorem p246_0 (lv : jmL) (st : List jmV) (w : jmW) : rn 246 (0, lv, st, w) = jq_lda 246 1 lv st w (jg lv 0) := q_aload_n (jd_of jb_246 dX9_drawn_0) rfl
theorem p246_1 (lv : jmL) (st : List jmV) (w : jmW) : rn 246 (1, lv, st, w) = rn 246 (4, lv, .inl (295) :: st, w) := q_sipush (jd_of jb_246 dX9_drawn_1) (by decide +kernel)
theorem p246_4 (lv : jmL) (st : List jmV) (w : jmW) : rn 246 (4, lv, st, w) = rn 246 (7, lv, .inr (.inl (75)) :: st, w) := q_ldc2 (jd_of jb_246 dX9_drawn_4) jo_246 jk_9_433
theorem p246_7 (lv : jmL) (st : List jmV) (w : jmW) : rn 246 (7, lv, st, w) = jq_lda 246 8 lv st w (jg lv 0) := q_aload_n (jd_of jb_246 dX9_drawn_7) rfl
theorem p246_8 (lv : jmL) (st : List jmV) (w : jmW) : rn 246 (8, lv, st, w) = rn 246 (11, lv, .inl (295) :: st, w) := q_sipush (jd_of jb_246 dX9_drawn_8) (by decide +kernel)
theorem p246_11 (lv : jmL) (st : List jmV) (w : jmW) (a : Nat) (j : Int) : rn 246 (11, lv, .inl j :: jvr a :: st, w) = jq_gr (mS w a) 0 j 246 12 lv (.inl (mI w a (jix j)) :: st) (w) := q_iald (jd_of jb_246 dX9_drawn_11)
theorem p246_12 (lv : jmL) (st : List jmV) (w : jmW) (x : Int) : rn 246 (12, lv, .inl x :: st, w) = rn 246 (13, lv, .inr (.inl (jw x)) :: st, w) := q_i2l (jd_of jb_246 dX9_drawn_12)
theorem p246_13 (lv : jmL) (st : List jmV) (w : jmW) (x y : Int) : rn 246 (13, lv, .inr (.inl y) :: .inr (.inl x) :: st, w) = rn 246 (14, lv, .inr (.inl (x * y)) :: st, w) := q_lmul (jd_of jb_246 dX9_drawn_13)
theorem p246_14 (lv : jmL) (st : List jmV) (w : jmW) : rn 246 (14, lv, st, w) = rn 246 (17, lv, .inr (.inl (74)) :: st, w) := q_ldc2 (jd_of jb_246 dX9_drawn_14) jo_246 jk_9_435
theorem p246_17 (lv : jmL) (st : List jmV) (w : jmW) (x y : Int) : rn 246 (17, lv, .inr (.inl y) :: .inr (.inl x) :: st, w) = rn 246 (18, lv, .inr (.inl (x + y)) :: st, w) := q_ladd (jd_of jb_246 dX9_drawn_17)
theorem p246_18 (lv : jmL) (st : List jmV) (w : jmW) : rn 246 (18, lv, st, w) = rn 246 (21, lv, .inr (.inl (65537)) :: st, w) := q_ldc2 (jd_of jb_246 dX9_drawn_18) jo_246 jk_9_437
theorem p246_21 (lv : jmL) (st : List jmV) (w : jmW) (x y : Int) : rn 246 (21, lv, .inr (.inl y) :: .inr (.inl x) :: st, w) = if jwl y = 0 then none else rn 246 (22, lv, .inr (.inl ((jwl x).tmod (jwl y))) :: st, w) := q_lrem (jd_of jb_246 dX9_drawn_21)
theorem p246_22 (lv : jmL) (st : List jmV) (w : jmW) (x : Int) : rn 246 (22, lv, .inr (.inl x) :: st, w) = rn 246 (23, lv, .inl x :: st, w) := q_l2i (jd_of jb_246 dX9_drawn_22)
theorem p246_23 (lv : jmL) (st : List jmV) (w : jmW) (a : Nat) (j x : Int) : rn 246 (23, lv, .inl x :: .inl j :: jvr a :: st, w) = jq_gw (mS w a) 0 j 246 24 lv (st) (setI w a (jix j) x) := q_iast (jd_of jb_246 dX9_drawn_23)
theorem p246_24 (lv : jmL) (st : List jmV) (w : jmW) : rn 246 (24, lv, st, w) = jq_lda 246 25 lv st w (jg lv 0) := q_aload_n (jd_of jb_246 dX9_drawn_24) rfl
theorem p246_25 (lv : jmL) (st : List jmV) (w : jmW) : rn 246 (25, lv, st, w) = rn 246 (28, lv, .inl (295) :: st, w) := q_sipush (jd_of jb_246 dX9_drawn_25) (by decide +kernel)
theorem p246_28 (lv : jmL) (st : List jmV) (w : jmW) (a : Nat) (j : Int) : rn 246 (28, lv, .inl j :: jvr a :: st, w) = jq_gr (mS w a) 0 j 246 29 lv (.inl (mI w a (jix j)) :: st) (w) := q_iald (jd_of jb_246 dX9_drawn_28)
theorem p246_29 (lv : jmL) (w : jmW) (x : Int) : rn 246 (29, lv, [.inl x], w) = some (some (.inl x), w) := q_ireturn (jd_of jb_246 dX9_drawn_29) jr_246
theorem p247_0 (lv : jmL) (st : List jmV) (w : jmW) : rn 247 (0, lv, st, w) = jq_lda 247 1 lv st w (jg lv 1) := q_aload_n (jd_of jb_247 dX9_sideHome_0) rfl
theorem p247_1 (lv : jmL) (st : List jmV) (w : jmW) : rn 247 (1, lv, st, w) = rn 247 (2, lv, .inl (0) :: st, w) := q_iconst (jd_of jb_247 dX9_sideHome_1)
theorem p247_2 (lv : jmL) (st : List jmV) (w : jmW) : rn 247 (2, lv, st, w) = jq_lda 247 3 lv st w (jg lv 1) := q_aload_n (jd_of jb_247 dX9_sideHome_2) rfl
theorem p247_3 (lv : jmL) (st : List jmV) (w : jmW) : rn 247 (3, lv, st, w) = rn 247 (6, lv, .inl (288) :: st, w) := q_sipush (jd_of jb_247 dX9_sideHome_3) (by decide +kernel)
theorem p247_6 (lv : jmL) (st : List jmV) (w : jmW) (a : Nat) (j : Int) : rn 247 (6, lv, .inl j :: jvr a :: st, w) = jq_gr (mS w a) 0 j 247 7 lv (.inl (mI w a (jix j)) :: st) (w) := q_iald (jd_of jb_247 dX9_sideHome_6)
theorem p247_7 (lv : jmL) (st : List jmV) (w : jmW) (x y : Int) : rn 247 (7, lv, .inl y :: .inl x :: st, w) = rn 247 (8, lv, .inl (x + y) :: st, w) := q_iadd (jd_of jb_247 dX9_sideHome_7)
theorem p247_8 (lv : jmL) (st : List jmV) (w : jmW) : rn 247 (8, lv, st, w) = rn 247 (9, lv, .inl (1) :: st, w) := q_iconst (jd_of jb_247 dX9_sideHome_8)
theorem p247_9 (lv : jmL) (st : List jmV) (w : jmW) (x y : Int) : rn 247 (9, lv, .inl y :: .inl x :: st, w) = rn 247 (10, lv, .inl (x - y) :: st, w) := q_isub (jd_of jb_247 dX9_sideHome_9)
theorem p247_10 (lv : jmL) (st : List jmV) (w : jmW) (a : Nat) (j : Int) : rn 247 (10, lv, .inl j :: jvr a :: st, w) = jq_gr (mS w a) 0 j 247 11 lv (.inl (mI w a (jix j)) :: st) (w) := q_iald (jd_of jb_247 dX9_sideHome_10)
theorem p247_11 (lv : jmL) (st : List jmV) (w : jmW) (x : Int) : rn 247 (11, lv, .inl x :: st, w) = rn 247 (12, js lv 2 (.inl x), st, w) := q_istore_n (jd_of jb_247 dX9_sideHome_11) rfl (by rw [jm_247]; decide)
theorem p247_12 (lv : jmL) (st : List jmV) (w : jmW) : rn 247 (12, lv, st, w) = jq_ldi 247 13 lv st w (jg lv 2) := q_iload_n (jd_of jb_247 dX9_sideHome_12) rfl
theorem p247_13 (lv : jmL) (st : List jmV) (w : jmW) : rn 247 (13, lv, st, w) = jq_lda 247 14 lv st w (jg lv 0) := q_aload_n (jd_of jb_247 dX9_sideHome_13) rfl
theorem p247_14 (lv : jmL) (st : List jmV) (w : jmW) (a : Nat) : rn 247 (14, lv, jvr a :: st, w) = jq_gs (mS w a) (1, 9, 0) 247 17 lv (.inr (.inr (mR w a 3)) :: st) (w) := q_getf (v := fun w a => .inr (.inr (mR w a 3))) (jd_of jb_247 dX9_sideHome_14) jo_247 jk_9_389 (fun _ _ => rfl)
theorem p247_17 (lv : jmL) (st : List jmV) (w : jmW) (a : Nat) : rn 247 (17, lv, jvr a :: st, w) = jq_gs (mS w a) (1, 8, 0) 247 20 lv (.inl (mI w a 12) :: st) (w) := q_getf (v := fun w a => .inl (mI w a 12)) (jd_of jb_247 dX9_sideHome_17) jo_247 jk_9_287 (fun _ _ => rfl)
theorem p247_20 (lv : jmL) (st : List jmV) (w : jmW) (x y : Int) : rn 247 (20, lv, .inl y :: .inl x :: st, w) = if jw x = jw y then rn 247 (23, lv, st, w) else rn 247 (25, lv, st, w) := q_icmp_ne (jd_of jb_247 dX9_sideHome_20) (by decide)
theorem p247_23 (lv : jmL) (st : List jmV) (w : jmW) : rn 247 (23, lv, st, w) = rn 247 (24, lv, .inl (-1) :: st, w) := q_iconst (jd_of jb_247 dX9_sideHome_23)
theorem p247_24 (lv : jmL) (w : jmW) (x : Int) : rn 247 (24, lv, [.inl x], w) = some (some (.inl x), w) := q_ireturn (jd_of jb_247 dX9_sideHome_24) jr_247
theorem p247_25 (lv : jmL) (st : List jmV) (w : jmW) : rn 247 (25, lv, st, w) = jq_lda 247 26 lv st w (jg lv 0) := q_aload_n (jd_of jb_247 dX9_sideHome_25) rfl
theorem p247_26 (lv : jmL) (st : List jmV) (w : jmW) : rn 247 (26, lv, st, w) = jq_lda 247 27 lv st w (jg lv 0) := q_aload_n (jd_of jb_247 dX9_sideHome_26) rfl
theorem p247_27 (lv : jmL) (st : List jmV) (w : jmW) (a : Nat) : rn 247 (27, lv, jvr a :: st, w) = jq_gs (mS w a) (1, 9, 0) 247 30 lv (.inr (.inr (mR w a 3)) :: st) (w) := q_getf (v := fun w a => .inr (.inr (mR w a 3))) (jd_of jb_247 dX9_sideHome_27) jo_247 jk_9_389 (fun _ _ => rfl)
theorem p247_30 (lv : jmL) (st : List jmV) (w : jmW) (a : Nat) : rn 247 (30, lv, jvr a :: st, w) = jq_gs (mS w a) (1, 8, 0) 247 33 lv (.inl (mI w a 12) :: st) (w) := q_getf (v := fun w a => .inl (mI w a 12)) (jd_of jb_247 dX9_sideHome_30) jo_247 jk_9_287 (fun _ _ => rfl)
theorem p247_33 (lv : jmL) (st : List jmV) (w : jmW) : rn 247 (33, lv, st, w) = rn 247 (34, lv, .inr (.inr none) :: st, w) := q_null (jd_of jb_247 dX9_sideHome_33)
theorem p247_34 (lv : jmL) (st : List jmV) (w : jmW) (b : Nat) (x1 : Int) (x2 : Option Nat) : rn 247 (34, lv, .inr (.inr x2) :: .inl x1 :: jvr b :: st, w) = jq_s (mS w b) (1, 9, 0) (jq_b (decide (jwd st ≤ 8)) (jq_c 247 37 lv st (rn 248 (0, [(0, jvr b), (1, .inl x1), (2, .inr (.inr x2))], [], w)))) := q_callv (as := [.inl x1, .inr (.inr x2)]) (rest := st) (jd_of jb_247 dX9_sideHome_34) jo_247 jk_9_442 rfl rfl rfl jo_248 jf_247_248 (Nat.le_of_ble_eq_true rfl)
theorem p247_37 (lv : jmL) (st : List jmV) (w : jmW) : rn 247 (37, lv, st, w) = rn 247 (38, lv, .inl (-1) :: st, w) := q_iconst (jd_of jb_247 dX9_sideHome_37)
theorem p247_38 (lv : jmL) (st : List jmV) (w : jmW) (x : Int) : rn 247 (38, lv, .inl x :: st, w) = rn 247 (39, js lv 3 (.inl x), st, w) := q_istore_n (jd_of jb_247 dX9_sideHome_38) rfl (by rw [jm_247]; decide)
theorem p247_39 (lv : jmL) (st : List jmV) (w : jmW) : rn 247 (39, lv, st, w) = rn 247 (40, lv, .inl (0) :: st, w) := q_iconst (jd_of jb_247 dX9_sideHome_39)
theorem p247_40 (lv : jmL) (st : List jmV) (w : jmW) (x : Int) : rn 247 (40, lv, .inl x :: st, w) = rn 247 (42, js lv 4 (.inl x), st, w) := q_istore (jd_of jb_247 dX9_sideHome_40) (by rw [jm_247]; decide)
theorem p247_42 (lv : jmL) (st : List jmV) (w : jmW) : rn 247 (42, lv, st, w) = rn 247 (43, lv, .inl (0) :: st, w) := q_iconst (jd_of jb_247 dX9_sideHome_42)
theorem p247_43 (lv : jmL) (st : List jmV) (w : jmW) (x : Int) : rn 247 (43, lv, .inl x :: st, w) = rn 247 (45, js lv 5 (.inl x), st, w) := q_istore (jd_of jb_247 dX9_sideHome_43) (by rw [jm_247]; decide)
theorem p247_45 (lv : jmL) (st : List jmV) (w : jmW) : rn 247 (45, lv, st, w) = jq_ldi 247 47 lv st w (jg lv 5) := q_iload (jd_of jb_247 dX9_sideHome_45)
theorem p247_47 (lv : jmL) (st : List jmV) (w : jmW) : rn 247 (47, lv, st, w) = rn 247 (48, lv, .inl (4) :: st, w) := q_iconst (jd_of jb_247 dX9_sideHome_47)
theorem p247_48 (lv : jmL) (st : List jmV) (w : jmW) (x y : Int) : rn 247 (48, lv, .inl y :: .inl x :: st, w) = if jw x < jw y then rn 247 (51, lv, st, w) else rn 247 (116, lv, st, w) := q_icmp_ge (jd_of jb_247 dX9_sideHome_48) (by decide)
theorem p247_51 (lv : jmL) (st : List jmV) (w : jmW) : rn 247 (51, lv, st, w) = jq_lda 247 52 lv st w (jg lv 0) := q_aload_n (jd_of jb_247 dX9_sideHome_51) rfl
theorem p247_52 (lv : jmL) (st : List jmV) (w : jmW) : rn 247 (52, lv, st, w) = jq_lda 247 53 lv st w (jg lv 1) := q_aload_n (jd_of jb_247 dX9_sideHome_52) rfl
theorem p247_53 (lv : jmL) (st : List jmV) (w : jmW) : rn 247 (53, lv, st, w) = jq_ldi 247 55 lv st w (jg lv 5) := q_iload (jd_of jb_247 dX9_sideHome_53)
theorem p247_55 (lv : jmL) (st : List jmV) (w : jmW) (b : Nat) (x1 : Option Nat) (x2 : Int) : rn 247 (55, lv, .inl x2 :: .inr (.inr x1) :: jvr b :: st, w) = jq_s (mS w b) (1, 9, 0) (jq_b (decide (jwd st ≤ 8)) (jq_c 247 58 lv st (rn 242 (0, [(0, jvr b), (1, .inr (.inr x1)), (2, .inl x2)], [], w)))) := q_callv (as := [.inr (.inr x1), .inl x2]) (rest := st) (jd_of jb_247 dX9_sideHome_55) jo_247 jk_9_430 rfl rfl rfl jo_242 jf_247_242 (Nat.le_of_ble_eq_true rfl)
theorem p247_58 (lv : jmL) (st : List jmV) (w : jmW) (x : Int) : rn 247 (58, lv, .inl x :: st, w) = if jw x = 0 then rn 247 (61, lv, st, w) else rn 247 (64, lv, st, w) := q_if_ne (jd_of jb_247 dX9_sideHome_58) (by decide)
theorem p247_61 (lv : jmL) (st : List jmV) (w : jmW) : rn 247 (61, lv, st, w) = rn 247 (110, lv, st, w) := q_goto (jd_of jb_247 dX9_sideHome_61) (by decide)
theorem p247_64 (lv : jmL) (st : List jmV) (w : jmW) : rn 247 (64, lv, st, w) = jq_lda 247 65 lv st w (jg lv 0) := q_aload_n (jd_of jb_247 dX9_sideHome_64) rfl
theorem p247_65 (lv : jmL) (st : List jmV) (w : jmW) (a : Nat) : rn 247 (65, lv, jvr a :: st, w) = jq_gs (mS w a) (1, 9, 0) 247 68 lv (.inr (.inr (mR w a 24)) :: st) (w) := q_getf (v := fun w a => .inr (.inr (mR w a 24))) (jd_of jb_247 dX9_sideHome_65) jo_247 jk_9_33 (fun _ _ => rfl)
theorem p247_68 (lv : jmL) (st : List jmV) (w : jmW) : rn 247 (68, lv, st, w) = jq_lda 247 69 lv st w (jg lv 0) := q_aload_n (jd_of jb_247 dX9_sideHome_68) rfl
theorem p247_69 (lv : jmL) (st : List jmV) (w : jmW) (a : Nat) : rn 247 (69, lv, jvr a :: st, w) = jq_gs (mS w a) (1, 9, 0) 247 72 lv (.inr (.inr (mR w a 3)) :: st) (w) := q_getf (v := fun w a => .inr (.inr (mR w a 3))) (jd_of jb_247 dX9_sideHome_69) jo_247 jk_9_389 (fun _ _ => rfl)
theorem p247_72 (lv : jmL) (st : List jmV) (w : jmW) : rn 247 (72, lv, st, w) = jq_ldi 247 73 lv st w (jg lv 2) := q_iload_n (jd_of jb_247 dX9_sideHome_72) rfl
theorem p247_73 (lv : jmL) (st : List jmV) (w : jmW) : rn 247 (73, lv, st, w) = jq_ldi 247 75 lv st w (jg lv 5) := q_iload (jd_of jb_247 dX9_sideHome_73)
theorem p247_75 (lv : jmL) (st : List jmV) (w : jmW) (b : Nat) (x1 : Int) (x2 : Int) : rn 247 (75, lv, .inl x2 :: .inl x1 :: jvr b :: st, w) = jq_s (mS w b) (1, 8, 0) (jq_b (decide (jwd st ≤ 8)) (jq_c 247 78 lv st (rn 209 (0, [(0, jvr b), (1, .inl x1), (2, .inl x2)], [], w)))) := q_callv (as := [.inl x1, .inl x2]) (rest := st) (jd_of jb_247 dX9_sideHome_75) jo_247 jk_9_364 rfl rfl rfl jo_209 jf_247_209 (Nat.le_of_ble_eq_true rfl)
theorem p247_78 (lv : jmL) (st : List jmV) (w : jmW) (a : Nat) (j : Int) : rn 247 (78, lv, .inl j :: jvr a :: st, w) = jq_gr (mS w a) 0 j 247 79 lv (.inl (mI w a (jix j)) :: st) (w) := q_iald (jd_of jb_247 dX9_sideHome_78)
theorem p247_79 (lv : jmL) (st : List jmV) (w : jmW) (x : Int) : rn 247 (79, lv, .inl x :: st, w) = rn 247 (81, js lv 6 (.inl x), st, w) := q_istore (jd_of jb_247 dX9_sideHome_79) (by rw [jm_247]; decide)
theorem p247_81 (lv : jmL) (st : List jmV) (w : jmW) : rn 247 (81, lv, st, w) = jq_ldi 247 83 lv st w (jg lv 6) := q_iload (jd_of jb_247 dX9_sideHome_81)
theorem p247_83 (lv : jmL) (st : List jmV) (w : jmW) : rn 247 (83, lv, st, w) = rn 247 (85, lv, .inl (-2) :: st, w) := q_bipush (jd_of jb_247 dX9_sideHome_83) (by decide +kernel)
theorem p247_85 (lv : jmL) (st : List jmV) (w : jmW) (x y : Int) : rn 247 (85, lv, .inl y :: .inl x :: st, w) = if jw x = jw y then rn 247 (110, lv, st, w) else rn 247 (88, lv, st, w) := q_icmp_eq (jd_of jb_247 dX9_sideHome_85) (by decide)
theorem p247_88 (lv : jmL) (st : List jmV) (w : jmW) : rn 247 (88, lv, st, w) = jq_ldi 247 89 lv st w (jg lv 3) := q_iload_n (jd_of jb_247 dX9_sideHome_88) rfl
theorem p247_89 (lv : jmL) (st : List jmV) (w : jmW) : rn 247 (89, lv, st, w) = rn 247 (90, lv, .inl (-1) :: st, w) := q_iconst (jd_of jb_247 dX9_sideHome_89)
theorem p247_90 (lv : jmL) (st : List jmV) (w : jmW) (x y : Int) : rn 247 (90, lv, .inl y :: .inl x :: st, w) = if jw x = jw y then rn 247 (103, lv, st, w) else rn 247 (93, lv, st, w) := q_icmp_eq (jd_of jb_247 dX9_sideHome_90) (by decide)
theorem p247_93 (lv : jmL) (st : List jmV) (w : jmW) : rn 247 (93, lv, st, w) = jq_ldi 247 95 lv st w (jg lv 6) := q_iload (jd_of jb_247 dX9_sideHome_93)
theorem p247_95 (lv : jmL) (st : List jmV) (w : jmW) : rn 247 (95, lv, st, w) = jq_ldi 247 97 lv st w (jg lv 4) := q_iload (jd_of jb_247 dX9_sideHome_95)
theorem p247_97 (lv : jmL) (st : List jmV) (w : jmW) (x y : Int) : rn 247 (97, lv, .inl y :: .inl x :: st, w) = if jw x < jw y then rn 247 (103, lv, st, w) else rn 247 (100, lv, st, w) := q_icmp_lt (jd_of jb_247 dX9_sideHome_97) (by decide)
theorem p247_100 (lv : jmL) (st : List jmV) (w : jmW) : rn 247 (100, lv, st, w) = rn 247 (110, lv, st, w) := q_goto (jd_of jb_247 dX9_sideHome_100) (by decide)
theorem p247_103 (lv : jmL) (st : List jmV) (w : jmW) : rn 247 (103, lv, st, w) = jq_ldi 247 105 lv st w (jg lv 5) := q_iload (jd_of jb_247 dX9_sideHome_103)
theorem p247_105 (lv : jmL) (st : List jmV) (w : jmW) (x : Int) : rn 247 (105, lv, .inl x :: st, w) = rn 247 (106, js lv 3 (.inl x), st, w) := q_istore_n (jd_of jb_247 dX9_sideHome_105) rfl (by rw [jm_247]; decide)
theorem p247_106 (lv : jmL) (st : List jmV) (w : jmW) : rn 247 (106, lv, st, w) = jq_ldi 247 108 lv st w (jg lv 6) := q_iload (jd_of jb_247 dX9_sideHome_106)
theorem p247_108 (lv : jmL) (st : List jmV) (w : jmW) (x : Int) : rn 247 (108, lv, .inl x :: st, w) = rn 247 (110, js lv 4 (.inl x), st, w) := q_istore (jd_of jb_247 dX9_sideHome_108) (by rw [jm_247]; decide)
theorem p247_110 (lv : jmL) (st : List jmV) (w : jmW) : rn 247 (110, lv, st, w) = jq_inc 247 113 lv 5 (1) st w (jg lv 5) := q_iinc (jd_of jb_247 dX9_sideHome_110) (by rw [jm_247]; decide)
theorem p247_113 (lv : jmL) (st : List jmV) (w : jmW) : rn 247 (113, lv, st, w) = rn 247 (45, lv, st, w) := q_goto (jd_of jb_247 dX9_sideHome_113) (by decide)
theorem p247_116 (lv : jmL) (st : List jmV) (w : jmW) : rn 247 (116, lv, st, w) = jq_ldi 247 117 lv st w (jg lv 3) := q_iload_n (jd_of jb_247 dX9_sideHome_116) rfl
theorem p247_117 (lv : jmL) (w : jmW) (x : Int) : rn 247 (117, lv, [.inl x], w) = some (some (.inl x), w) := q_ireturn (jd_of jb_247 dX9_sideHome_117) jr_247
theorem p248_0 (lv : jmL) (st : List jmV) (w : jmW) : rn 248 (0, lv, st, w) = rn 248 (1, lv, .inl (0) :: st, w) := q_iconst (jd_of jb_248 dX9_laysFar_0)
theorem p248_1 (lv : jmL) (st : List jmV) (w : jmW) (x : Int) : rn 248 (1, lv, .inl x :: st, w) = rn 248 (2, js lv 3 (.inl x), st, w) := q_istore_n (jd_of jb_248 dX9_laysFar_1) rfl (by rw [jm_248]; decide)
theorem p248_2 (lv : jmL) (st : List jmV) (w : jmW) : rn 248 (2, lv, st, w) = jq_ldi 248 3 lv st w (jg lv 3) := q_iload_n (jd_of jb_248 dX9_laysFar_2) rfl
theorem p248_3 (lv : jmL) (st : List jmV) (w : jmW) : rn 248 (3, lv, st, w) = rn 248 (5, lv, .inl (48) :: st, w) := q_bipush (jd_of jb_248 dX9_laysFar_3) (by decide +kernel)
theorem p248_5 (lv : jmL) (st : List jmV) (w : jmW) (x y : Int) : rn 248 (5, lv, .inl y :: .inl x :: st, w) = if jw x < jw y then rn 248 (8, lv, st, w) else rn 248 (22, lv, st, w) := q_icmp_ge (jd_of jb_248 dX9_laysFar_5) (by decide)
theorem p248_8 (lv : jmL) (st : List jmV) (w : jmW) : rn 248 (8, lv, st, w) = jq_lda 248 9 lv st w (jg lv 0) := q_aload_n (jd_of jb_248 dX9_laysFar_8) rfl
theorem p248_9 (lv : jmL) (st : List jmV) (w : jmW) (a : Nat) : rn 248 (9, lv, jvr a :: st, w) = jq_gs (mS w a) (1, 9, 0) 248 12 lv (.inr (.inr (mR w a 24)) :: st) (w) := q_getf (v := fun w a => .inr (.inr (mR w a 24))) (jd_of jb_248 dX9_laysFar_9) jo_248 jk_9_33 (fun _ _ => rfl)
theorem p248_12 (lv : jmL) (st : List jmV) (w : jmW) : rn 248 (12, lv, st, w) = jq_ldi 248 13 lv st w (jg lv 3) := q_iload_n (jd_of jb_248 dX9_laysFar_12) rfl
theorem p248_13 (lv : jmL) (st : List jmV) (w : jmW) : rn 248 (13, lv, st, w) = rn 248 (15, lv, .inl (-2) :: st, w) := q_bipush (jd_of jb_248 dX9_laysFar_13) (by decide +kernel)
theorem p248_15 (lv : jmL) (st : List jmV) (w : jmW) (a : Nat) (j x : Int) : rn 248 (15, lv, .inl x :: .inl j :: jvr a :: st, w) = jq_gw (mS w a) 0 j 248 16 lv (st) (setI w a (jix j) x) := q_iast (jd_of jb_248 dX9_laysFar_15)
theorem p248_16 (lv : jmL) (st : List jmV) (w : jmW) : rn 248 (16, lv, st, w) = jq_inc 248 19 lv 3 (1) st w (jg lv 3) := q_iinc (jd_of jb_248 dX9_laysFar_16) (by rw [jm_248]; decide)
theorem p248_19 (lv : jmL) (st : List jmV) (w : jmW) : rn 248 (19, lv, st, w) = rn 248 (2, lv, st, w) := q_goto (jd_of jb_248 dX9_laysFar_19) (by decide)
theorem p248_22 (lv : jmL) (st : List jmV) (w : jmW) : rn 248 (22, lv, st, w) = jq_ldi 248 23 lv st w (jg lv 1) := q_iload_n (jd_of jb_248 dX9_laysFar_22) rfl
theorem p248_23 (lv : jmL) (st : List jmV) (w : jmW) : rn 248 (23, lv, st, w) = rn 248 (25, lv, .inl (-2) :: st, w) := q_bipush (jd_of jb_248 dX9_laysFar_23) (by decide +kernel)
theorem p248_25 (lv : jmL) (st : List jmV) (w : jmW) (x y : Int) : rn 248 (25, lv, .inl y :: .inl x :: st, w) = if jw x = jw y then rn 248 (39, lv, st, w) else rn 248 (28, lv, st, w) := q_icmp_eq (jd_of jb_248 dX9_laysFar_25) (by decide)
theorem p248_28 (lv : jmL) (st : List jmV) (w : jmW) : rn 248 (28, lv, st, w) = jq_lda 248 29 lv st w (jg lv 0) := q_aload_n (jd_of jb_248 dX9_laysFar_28) rfl
theorem p248_29 (lv : jmL) (st : List jmV) (w : jmW) (a : Nat) : rn 248 (29, lv, jvr a :: st, w) = jq_gs (mS w a) (1, 9, 0) 248 32 lv (.inr (.inr (mR w a 3)) :: st) (w) := q_getf (v := fun w a => .inr (.inr (mR w a 3))) (jd_of jb_248 dX9_laysFar_29) jo_248 jk_9_389 (fun _ _ => rfl)
theorem p248_32 (lv : jmL) (st : List jmV) (w : jmW) : rn 248 (32, lv, st, w) = jq_ldi 248 33 lv st w (jg lv 1) := q_iload_n (jd_of jb_248 dX9_laysFar_32) rfl
theorem p248_33 (lv : jmL) (st : List jmV) (w : jmW) (b : Nat) (x1 : Int) : rn 248 (33, lv, .inl x1 :: jvr b :: st, w) = jq_s (mS w b) (1, 8, 0) (jq_b (decide (jwd st ≤ 8)) (jq_c 248 36 lv st (rn 208 (0, [(0, jvr b), (1, .inl x1)], [], w)))) := q_callv (as := [.inl x1]) (rest := st) (jd_of jb_248 dX9_laysFar_33) jo_248 jk_9_361 rfl rfl rfl jo_208 jf_248_208 (Nat.le_of_ble_eq_true rfl)
theorem p248_36 (lv : jmL) (st : List jmV) (w : jmW) (x : Int) : rn 248 (36, lv, .inl x :: st, w) = if jw x = 0 then rn 248 (39, lv, st, w) else rn 248 (40, lv, st, w) := q_if_ne (jd_of jb_248 dX9_laysFar_36) (by decide)
theorem p248_39 (lv : jmL) (w : jmW) : rn 248 (39, lv, [], w) = some (none, w) := q_return (jd_of jb_248 dX9_laysFar_39) jr_248
theorem p248_40 (lv : jmL) (st : List jmV) (w : jmW) : rn 248 (40, lv, st, w) = jq_lda 248 41 lv st w (jg lv 0) := q_aload_n (jd_of jb_248 dX9_laysFar_40) rfl
theorem p248_41 (lv : jmL) (st : List jmV) (w : jmW) (a : Nat) : rn 248 (41, lv, jvr a :: st, w) = jq_gs (mS w a) (1, 9, 0) 248 44 lv (.inr (.inr (mR w a 24)) :: st) (w) := q_getf (v := fun w a => .inr (.inr (mR w a 24))) (jd_of jb_248 dX9_laysFar_41) jo_248 jk_9_33 (fun _ _ => rfl)
theorem p248_44 (lv : jmL) (st : List jmV) (w : jmW) : rn 248 (44, lv, st, w) = jq_ldi 248 45 lv st w (jg lv 1) := q_iload_n (jd_of jb_248 dX9_laysFar_44) rfl
theorem p248_45 (lv : jmL) (st : List jmV) (w : jmW) : rn 248 (45, lv, st, w) = rn 248 (46, lv, .inl (0) :: st, w) := q_iconst (jd_of jb_248 dX9_laysFar_45)
theorem p248_46 (lv : jmL) (st : List jmV) (w : jmW) (a : Nat) (j x : Int) : rn 248 (46, lv, .inl x :: .inl j :: jvr a :: st, w) = jq_gw (mS w a) 0 j 248 47 lv (st) (setI w a (jix j) x) := q_iast (jd_of jb_248 dX9_laysFar_46)
theorem p248_47 (lv : jmL) (st : List jmV) (w : jmW) : rn 248 (47, lv, st, w) = jq_lda 248 48 lv st w (jg lv 0) := q_aload_n (jd_of jb_248 dX9_laysFar_47) rfl
theorem p248_48 (lv : jmL) (st : List jmV) (w : jmW) (a : Nat) : rn 248 (48, lv, jvr a :: st, w) = jq_gs (mS w a) (1, 9, 0) 248 51 lv (.inr (.inr (mR w a 25)) :: st) (w) := q_getf (v := fun w a => .inr (.inr (mR w a 25))) (jd_of jb_248 dX9_laysFar_48) jo_248 jk_9_36 (fun _ _ => rfl)
theorem p248_51 (lv : jmL) (st : List jmV) (w : jmW) : rn 248 (51, lv, st, w) = rn 248 (52, lv, .inl (0) :: st, w) := q_iconst (jd_of jb_248 dX9_laysFar_51)
theorem p248_52 (lv : jmL) (st : List jmV) (w : jmW) : rn 248 (52, lv, st, w) = jq_ldi 248 53 lv st w (jg lv 1) := q_iload_n (jd_of jb_248 dX9_laysFar_52) rfl
theorem p248_53 (lv : jmL) (st : List jmV) (w : jmW) (a : Nat) (j x : Int) : rn 248 (53, lv, .inl x :: .inl j :: jvr a :: st, w) = jq_gw (mS w a) 0 j 248 54 lv (st) (setI w a (jix j) x) := q_iast (jd_of jb_248 dX9_laysFar_53)
theorem p248_54 (lv : jmL) (st : List jmV) (w : jmW) : rn 248 (54, lv, st, w) = rn 248 (55, lv, .inl (1) :: st, w) := q_iconst (jd_of jb_248 dX9_laysFar_54)
theorem p248_55 (lv : jmL) (st : List jmV) (w : jmW) (x : Int) : rn 248 (55, lv, .inl x :: st, w) = rn 248 (56, js lv 3 (.inl x), st, w) := q_istore_n (jd_of jb_248 dX9_laysFar_55) rfl (by rw [jm_248]; decide)
theorem p248_56 (lv : jmL) (st : List jmV) (w : jmW) : rn 248 (56, lv, st, w) = rn 248 (57, lv, .inl (0) :: st, w) := q_iconst (jd_of jb_248 dX9_laysFar_56)
theorem p248_57 (lv : jmL) (st : List jmV) (w : jmW) (x : Int) : rn 248 (57, lv, .inl x :: st, w) = rn 248 (59, js lv 4 (.inl x), st, w) := q_istore (jd_of jb_248 dX9_laysFar_57) (by rw [jm_248]; decide)
theorem p248_59 (lv : jmL) (st : List jmV) (w : jmW) : rn 248 (59, lv, st, w) = jq_ldi 248 61 lv st w (jg lv 4) := q_iload (jd_of jb_248 dX9_laysFar_59)
theorem p248_61 (lv : jmL) (st : List jmV) (w : jmW) : rn 248 (61, lv, st, w) = jq_ldi 248 62 lv st w (jg lv 3) := q_iload_n (jd_of jb_248 dX9_laysFar_61) rfl
theorem p248_62 (lv : jmL) (st : List jmV) (w : jmW) (x y : Int) : rn 248 (62, lv, .inl y :: .inl x :: st, w) = if jw x < jw y then rn 248 (65, lv, st, w) else rn 248 (177, lv, st, w) := q_icmp_ge (jd_of jb_248 dX9_laysFar_62) (by decide)
theorem p248_65 (lv : jmL) (st : List jmV) (w : jmW) : rn 248 (65, lv, st, w) = rn 248 (66, lv, .inl (0) :: st, w) := q_iconst (jd_of jb_248 dX9_laysFar_65)
theorem p248_66 (lv : jmL) (st : List jmV) (w : jmW) (x : Int) : rn 248 (66, lv, .inl x :: st, w) = rn 248 (68, js lv 5 (.inl x), st, w) := q_istore (jd_of jb_248 dX9_laysFar_66) (by rw [jm_248]; decide)
theorem p248_68 (lv : jmL) (st : List jmV) (w : jmW) : rn 248 (68, lv, st, w) = jq_ldi 248 70 lv st w (jg lv 5) := q_iload (jd_of jb_248 dX9_laysFar_68)
theorem p248_70 (lv : jmL) (st : List jmV) (w : jmW) : rn 248 (70, lv, st, w) = rn 248 (71, lv, .inl (4) :: st, w) := q_iconst (jd_of jb_248 dX9_laysFar_70)
theorem p248_71 (lv : jmL) (st : List jmV) (w : jmW) (x y : Int) : rn 248 (71, lv, .inl y :: .inl x :: st, w) = if jw x < jw y then rn 248 (74, lv, st, w) else rn 248 (171, lv, st, w) := q_icmp_ge (jd_of jb_248 dX9_laysFar_71) (by decide)
theorem p248_74 (lv : jmL) (st : List jmV) (w : jmW) : rn 248 (74, lv, st, w) = jq_lda 248 75 lv st w (jg lv 0) := q_aload_n (jd_of jb_248 dX9_laysFar_74) rfl
theorem p248_75 (lv : jmL) (st : List jmV) (w : jmW) (a : Nat) : rn 248 (75, lv, jvr a :: st, w) = jq_gs (mS w a) (1, 9, 0) 248 78 lv (.inr (.inr (mR w a 3)) :: st) (w) := q_getf (v := fun w a => .inr (.inr (mR w a 3))) (jd_of jb_248 dX9_laysFar_75) jo_248 jk_9_389 (fun _ _ => rfl)
theorem p248_78 (lv : jmL) (st : List jmV) (w : jmW) : rn 248 (78, lv, st, w) = jq_lda 248 79 lv st w (jg lv 0) := q_aload_n (jd_of jb_248 dX9_laysFar_78) rfl
theorem p248_79 (lv : jmL) (st : List jmV) (w : jmW) (a : Nat) : rn 248 (79, lv, jvr a :: st, w) = jq_gs (mS w a) (1, 9, 0) 248 82 lv (.inr (.inr (mR w a 25)) :: st) (w) := q_getf (v := fun w a => .inr (.inr (mR w a 25))) (jd_of jb_248 dX9_laysFar_79) jo_248 jk_9_36 (fun _ _ => rfl)
theorem p248_82 (lv : jmL) (st : List jmV) (w : jmW) : rn 248 (82, lv, st, w) = jq_ldi 248 84 lv st w (jg lv 4) := q_iload (jd_of jb_248 dX9_laysFar_82)
theorem p248_84 (lv : jmL) (st : List jmV) (w : jmW) (a : Nat) (j : Int) : rn 248 (84, lv, .inl j :: jvr a :: st, w) = jq_gr (mS w a) 0 j 248 85 lv (.inl (mI w a (jix j)) :: st) (w) := q_iald (jd_of jb_248 dX9_laysFar_84)
theorem p248_85 (lv : jmL) (st : List jmV) (w : jmW) : rn 248 (85, lv, st, w) = jq_ldi 248 87 lv st w (jg lv 5) := q_iload (jd_of jb_248 dX9_laysFar_85)
theorem p248_87 (lv : jmL) (st : List jmV) (w : jmW) (b : Nat) (x1 : Int) (x2 : Int) : rn 248 (87, lv, .inl x2 :: .inl x1 :: jvr b :: st, w) = jq_s (mS w b) (1, 8, 0) (jq_b (decide (jwd st ≤ 8)) (jq_c 248 90 lv st (rn 209 (0, [(0, jvr b), (1, .inl x1), (2, .inl x2)], [], w)))) := q_callv (as := [.inl x1, .inl x2]) (rest := st) (jd_of jb_248 dX9_laysFar_87) jo_248 jk_9_364 rfl rfl rfl jo_209 jf_248_209 (Nat.le_of_ble_eq_true rfl)
theorem p248_90 (lv : jmL) (st : List jmV) (w : jmW) (x : Int) : rn 248 (90, lv, .inl x :: st, w) = rn 248 (92, js lv 6 (.inl x), st, w) := q_istore (jd_of jb_248 dX9_laysFar_90) (by rw [jm_248]; decide)
theorem p248_92 (lv : jmL) (st : List jmV) (w : jmW) : rn 248 (92, lv, st, w) = jq_lda 248 93 lv st w (jg lv 0) := q_aload_n (jd_of jb_248 dX9_laysFar_92) rfl
theorem p248_93 (lv : jmL) (st : List jmV) (w : jmW) (a : Nat) : rn 248 (93, lv, jvr a :: st, w) = jq_gs (mS w a) (1, 9, 0) 248 96 lv (.inr (.inr (mR w a 3)) :: st) (w) := q_getf (v := fun w a => .inr (.inr (mR w a 3))) (jd_of jb_248 dX9_laysFar_93) jo_248 jk_9_389 (fun _ _ => rfl)
theorem p248_96 (lv : jmL) (st : List jmV) (w : jmW) : rn 248 (96, lv, st, w) = jq_ldi 248 98 lv st w (jg lv 6) := q_iload (jd_of jb_248 dX9_laysFar_96)
theorem p248_98 (lv : jmL) (st : List jmV) (w : jmW) (b : Nat) (x1 : Int) : rn 248 (98, lv, .inl x1 :: jvr b :: st, w) = jq_s (mS w b) (1, 8, 0) (jq_b (decide (jwd st ≤ 8)) (jq_c 248 101 lv st (rn 208 (0, [(0, jvr b), (1, .inl x1)], [], w)))) := q_callv (as := [.inl x1]) (rest := st) (jd_of jb_248 dX9_laysFar_98) jo_248 jk_9_361 rfl rfl rfl jo_208 jf_248_208 (Nat.le_of_ble_eq_true rfl)
theorem p248_101 (lv : jmL) (st : List jmV) (w : jmW) (x : Int) : rn 248 (101, lv, .inl x :: st, w) = if jw x = 0 then rn 248 (165, lv, st, w) else rn 248 (104, lv, st, w) := q_if_eq (jd_of jb_248 dX9_laysFar_101) (by decide)
theorem p248_104 (lv : jmL) (st : List jmV) (w : jmW) : rn 248 (104, lv, st, w) = jq_lda 248 105 lv st w (jg lv 0) := q_aload_n (jd_of jb_248 dX9_laysFar_104) rfl
theorem p248_105 (lv : jmL) (st : List jmV) (w : jmW) (a : Nat) : rn 248 (105, lv, jvr a :: st, w) = jq_gs (mS w a) (1, 9, 0) 248 108 lv (.inr (.inr (mR w a 24)) :: st) (w) := q_getf (v := fun w a => .inr (.inr (mR w a 24))) (jd_of jb_248 dX9_laysFar_105) jo_248 jk_9_33 (fun _ _ => rfl)
theorem p248_108 (lv : jmL) (st : List jmV) (w : jmW) : rn 248 (108, lv, st, w) = jq_ldi 248 110 lv st w (jg lv 6) := q_iload (jd_of jb_248 dX9_laysFar_108)
theorem p248_110 (lv : jmL) (st : List jmV) (w : jmW) (a : Nat) (j : Int) : rn 248 (110, lv, .inl j :: jvr a :: st, w) = jq_gr (mS w a) 0 j 248 111 lv (.inl (mI w a (jix j)) :: st) (w) := q_iald (jd_of jb_248 dX9_laysFar_110)
theorem p248_111 (lv : jmL) (st : List jmV) (w : jmW) : rn 248 (111, lv, st, w) = rn 248 (113, lv, .inl (-2) :: st, w) := q_bipush (jd_of jb_248 dX9_laysFar_111) (by decide +kernel)
theorem p248_113 (lv : jmL) (st : List jmV) (w : jmW) (x y : Int) : rn 248 (113, lv, .inl y :: .inl x :: st, w) = if jw x = jw y then rn 248 (116, lv, st, w) else rn 248 (165, lv, st, w) := q_icmp_ne (jd_of jb_248 dX9_laysFar_113) (by decide)
theorem p248_116 (lv : jmL) (st : List jmV) (w : jmW) : rn 248 (116, lv, st, w) = jq_lda 248 117 lv st w (jg lv 2) := q_aload_n (jd_of jb_248 dX9_laysFar_116) rfl
theorem p248_117n (lv : jmL) (st : List jmV) (w : jmW) : rn 248 (117, lv, .inr (.inr none) :: st, w) = rn 248 (133, lv, st, w) := q_ifnull_n (tgt := 133) (jd_of jb_248 dX9_laysFar_117) (by decide)
theorem p248_117s (lv : jmL) (st : List jmV) (w : jmW) (a : Nat) : rn 248 (117, lv, .inr (.inr (some a)) :: st, w) = rn 248 (120, lv, st, w) := q_ifnull_s (tgt := 133) (jd_of jb_248 dX9_laysFar_117) (by decide)
theorem p248_120 (lv : jmL) (st : List jmV) (w : jmW) : rn 248 (120, lv, st, w) = jq_lda 248 121 lv st w (jg lv 2) := q_aload_n (jd_of jb_248 dX9_laysFar_120) rfl
theorem p248_121 (lv : jmL) (st : List jmV) (w : jmW) : rn 248 (121, lv, st, w) = jq_ldi 248 123 lv st w (jg lv 6) := q_iload (jd_of jb_248 dX9_laysFar_121)
theorem p248_123 (lv : jmL) (st : List jmV) (w : jmW) : rn 248 (123, lv, st, w) = rn 248 (124, lv, .inl (-1) :: st, w) := q_iconst (jd_of jb_248 dX9_laysFar_123)
theorem p248_124 (lv : jmL) (st : List jmV) (w : jmW) (x1 : Option Nat) (x2 : Int) (x3 : Int) : rn 248 (124, lv, .inl x3 :: .inl x2 :: .inr (.inr x1) :: st, w) = jq_b (decide (jwd st ≤ 8)) (jq_c 248 127 lv st (rn 243 (0, [(0, .inr (.inr x1)), (1, .inl x2), (2, .inl x3)], [], w))) := q_calls (as := [.inr (.inr x1), .inl x2, .inl x3]) (rest := st) (jd_of jb_248 dX9_laysFar_124) jo_248 jk_9_405 rfl rfl rfl jf_248_243 (Nat.le_of_ble_eq_true rfl)
theorem p248_127 (lv : jmL) (st : List jmV) (w : jmW) (x : Int) : rn 248 (127, lv, .inl x :: st, w) = if jw x = 0 then rn 248 (133, lv, st, w) else rn 248 (130, lv, st, w) := q_if_eq (jd_of jb_248 dX9_laysFar_127) (by decide)
theorem p248_130 (lv : jmL) (st : List jmV) (w : jmW) : rn 248 (130, lv, st, w) = rn 248 (165, lv, st, w) := q_goto (jd_of jb_248 dX9_laysFar_130) (by decide)
theorem p248_133 (lv : jmL) (st : List jmV) (w : jmW) : rn 248 (133, lv, st, w) = jq_lda 248 134 lv st w (jg lv 0) := q_aload_n (jd_of jb_248 dX9_laysFar_133) rfl
theorem p248_134 (lv : jmL) (st : List jmV) (w : jmW) (a : Nat) : rn 248 (134, lv, jvr a :: st, w) = jq_gs (mS w a) (1, 9, 0) 248 137 lv (.inr (.inr (mR w a 24)) :: st) (w) := q_getf (v := fun w a => .inr (.inr (mR w a 24))) (jd_of jb_248 dX9_laysFar_134) jo_248 jk_9_33 (fun _ _ => rfl)
theorem p248_137 (lv : jmL) (st : List jmV) (w : jmW) : rn 248 (137, lv, st, w) = jq_ldi 248 139 lv st w (jg lv 6) := q_iload (jd_of jb_248 dX9_laysFar_137)
theorem p248_139 (lv : jmL) (st : List jmV) (w : jmW) : rn 248 (139, lv, st, w) = jq_lda 248 140 lv st w (jg lv 0) := q_aload_n (jd_of jb_248 dX9_laysFar_139) rfl
theorem p248_140 (lv : jmL) (st : List jmV) (w : jmW) (a : Nat) : rn 248 (140, lv, jvr a :: st, w) = jq_gs (mS w a) (1, 9, 0) 248 143 lv (.inr (.inr (mR w a 24)) :: st) (w) := q_getf (v := fun w a => .inr (.inr (mR w a 24))) (jd_of jb_248 dX9_laysFar_140) jo_248 jk_9_33 (fun _ _ => rfl)
theorem p248_143 (lv : jmL) (st : List jmV) (w : jmW) : rn 248 (143, lv, st, w) = jq_lda 248 144 lv st w (jg lv 0) := q_aload_n (jd_of jb_248 dX9_laysFar_143) rfl
theorem p248_144 (lv : jmL) (st : List jmV) (w : jmW) (a : Nat) : rn 248 (144, lv, jvr a :: st, w) = jq_gs (mS w a) (1, 9, 0) 248 147 lv (.inr (.inr (mR w a 25)) :: st) (w) := q_getf (v := fun w a => .inr (.inr (mR w a 25))) (jd_of jb_248 dX9_laysFar_144) jo_248 jk_9_36 (fun _ _ => rfl)
theorem p248_147 (lv : jmL) (st : List jmV) (w : jmW) : rn 248 (147, lv, st, w) = jq_ldi 248 149 lv st w (jg lv 4) := q_iload (jd_of jb_248 dX9_laysFar_147)
theorem p248_149 (lv : jmL) (st : List jmV) (w : jmW) (a : Nat) (j : Int) : rn 248 (149, lv, .inl j :: jvr a :: st, w) = jq_gr (mS w a) 0 j 248 150 lv (.inl (mI w a (jix j)) :: st) (w) := q_iald (jd_of jb_248 dX9_laysFar_149)
theorem p248_150 (lv : jmL) (st : List jmV) (w : jmW) (a : Nat) (j : Int) : rn 248 (150, lv, .inl j :: jvr a :: st, w) = jq_gr (mS w a) 0 j 248 151 lv (.inl (mI w a (jix j)) :: st) (w) := q_iald (jd_of jb_248 dX9_laysFar_150)
theorem p248_151 (lv : jmL) (st : List jmV) (w : jmW) : rn 248 (151, lv, st, w) = rn 248 (152, lv, .inl (1) :: st, w) := q_iconst (jd_of jb_248 dX9_laysFar_151)
theorem p248_152 (lv : jmL) (st : List jmV) (w : jmW) (x y : Int) : rn 248 (152, lv, .inl y :: .inl x :: st, w) = rn 248 (153, lv, .inl (x + y) :: st, w) := q_iadd (jd_of jb_248 dX9_laysFar_152)
theorem p248_153 (lv : jmL) (st : List jmV) (w : jmW) (a : Nat) (j x : Int) : rn 248 (153, lv, .inl x :: .inl j :: jvr a :: st, w) = jq_gw (mS w a) 0 j 248 154 lv (st) (setI w a (jix j) x) := q_iast (jd_of jb_248 dX9_laysFar_153)
theorem p248_154 (lv : jmL) (st : List jmV) (w : jmW) : rn 248 (154, lv, st, w) = jq_lda 248 155 lv st w (jg lv 0) := q_aload_n (jd_of jb_248 dX9_laysFar_154) rfl
theorem p248_155 (lv : jmL) (st : List jmV) (w : jmW) (a : Nat) : rn 248 (155, lv, jvr a :: st, w) = jq_gs (mS w a) (1, 9, 0) 248 158 lv (.inr (.inr (mR w a 25)) :: st) (w) := q_getf (v := fun w a => .inr (.inr (mR w a 25))) (jd_of jb_248 dX9_laysFar_155) jo_248 jk_9_36 (fun _ _ => rfl)
theorem p248_158 (lv : jmL) (st : List jmV) (w : jmW) : rn 248 (158, lv, st, w) = jq_ldi 248 159 lv st w (jg lv 3) := q_iload_n (jd_of jb_248 dX9_laysFar_158) rfl
theorem p248_159 (lv : jmL) (st : List jmV) (w : jmW) : rn 248 (159, lv, st, w) = jq_ldi 248 161 lv st w (jg lv 6) := q_iload (jd_of jb_248 dX9_laysFar_159)
theorem p248_161 (lv : jmL) (st : List jmV) (w : jmW) (a : Nat) (j x : Int) : rn 248 (161, lv, .inl x :: .inl j :: jvr a :: st, w) = jq_gw (mS w a) 0 j 248 162 lv (st) (setI w a (jix j) x) := q_iast (jd_of jb_248 dX9_laysFar_161)
theorem p248_162 (lv : jmL) (st : List jmV) (w : jmW) : rn 248 (162, lv, st, w) = jq_inc 248 165 lv 3 (1) st w (jg lv 3) := q_iinc (jd_of jb_248 dX9_laysFar_162) (by rw [jm_248]; decide)
theorem p248_165 (lv : jmL) (st : List jmV) (w : jmW) : rn 248 (165, lv, st, w) = jq_inc 248 168 lv 5 (1) st w (jg lv 5) := q_iinc (jd_of jb_248 dX9_laysFar_165) (by rw [jm_248]; decide)
theorem p248_168 (lv : jmL) (st : List jmV) (w : jmW) : rn 248 (168, lv, st, w) = rn 248 (68, lv, st, w) := q_goto (jd_of jb_248 dX9_laysFar_168) (by decide)
theorem p248_171 (lv : jmL) (st : List jmV) (w : jmW) : rn 248 (171, lv, st, w) = jq_inc 248 174 lv 4 (1) st w (jg lv 4) := q_iinc (jd_of jb_248 dX9_laysFar_171) (by rw [jm_248]; decide)
theorem p248_174 (lv : jmL) (st : List jmV) (w : jmW) : rn 248 (174, lv, st, w) = rn 248 (59, lv, st, w) := q_goto (jd_of jb_248 dX9_laysFar_174) (by decide)
theorem p248_177 (lv : jmL) (w : jmW) : rn 248 (177, lv, [], w) = some (none, w) := q_return (jd_of jb_248 dX9_laysFar_177) jr_248
theorem p249_0 (lv : jmL) (st : List jmV) (w : jmW) : rn 249 (0, lv, st, w) = jq_lda 249 1 lv st w (jg lv 1) := q_aload_n (jd_of jb_249 dX9_sideTold_0) rfl
theorem p249_1 (lv : jmL) (st : List jmV) (w : jmW) : rn 249 (1, lv, st, w) = rn 249 (4, lv, .inl (293) :: st, w) := q_sipush (jd_of jb_249 dX9_sideTold_1) (by decide +kernel)
theorem p249_4 (lv : jmL) (st : List jmV) (w : jmW) (a : Nat) (j : Int) : rn 249 (4, lv, .inl j :: jvr a :: st, w) = jq_gr (mS w a) 0 j 249 5 lv (.inl (mI w a (jix j)) :: st) (w) := q_iald (jd_of jb_249 dX9_sideTold_4)
theorem p249_5 (lv : jmL) (st : List jmV) (w : jmW) : rn 249 (5, lv, st, w) = jq_lda 249 6 lv st w (jg lv 0) := q_aload_n (jd_of jb_249 dX9_sideTold_5) rfl
theorem p249_6 (lv : jmL) (st : List jmV) (w : jmW) (a : Nat) : rn 249 (6, lv, jvr a :: st, w) = jq_gs (mS w a) (1, 9, 0) 249 9 lv (.inl (mI w a 27) :: st) (w) := q_getf (v := fun w a => .inl (mI w a 27)) (jd_of jb_249 dX9_sideTold_6) jo_249 jk_9_446 (fun _ _ => rfl)
theorem p249_9 (lv : jmL) (st : List jmV) (w : jmW) (x y : Int) : rn 249 (9, lv, .inl y :: .inl x :: st, w) = if jw x < jw y then rn 249 (14, lv, st, w) else rn 249 (12, lv, st, w) := q_icmp_lt (jd_of jb_249 dX9_sideTold_9) (by decide)
theorem p249_12 (lv : jmL) (st : List jmV) (w : jmW) : rn 249 (12, lv, st, w) = rn 249 (13, lv, .inl (-1) :: st, w) := q_iconst (jd_of jb_249 dX9_sideTold_12)
theorem p249_13 (lv : jmL) (w : jmW) (x : Int) : rn 249 (13, lv, [.inl x], w) = some (some (.inl x), w) := q_ireturn (jd_of jb_249 dX9_sideTold_13) jr_249
theorem p249_14 (lv : jmL) (st : List jmV) (w : jmW) : rn 249 (14, lv, st, w) = jq_lda 249 15 lv st w (jg lv 0) := q_aload_n (jd_of jb_249 dX9_sideTold_14) rfl
theorem p249_15 (lv : jmL) (st : List jmV) (w : jmW) (a : Nat) : rn 249 (15, lv, jvr a :: st, w) = jq_gs (mS w a) (1, 9, 0) 249 18 lv (.inr (.inr (mR w a 28)) :: st) (w) := q_getf (v := fun w a => .inr (.inr (mR w a 28))) (jd_of jb_249 dX9_sideTold_15) jo_249 jk_9_39 (fun _ _ => rfl)
theorem p249_18 (lv : jmL) (st : List jmV) (w : jmW) : rn 249 (18, lv, st, w) = jq_lda 249 19 lv st w (jg lv 1) := q_aload_n (jd_of jb_249 dX9_sideTold_18) rfl
theorem p249_19 (lv : jmL) (st : List jmV) (w : jmW) : rn 249 (19, lv, st, w) = rn 249 (22, lv, .inl (293) :: st, w) := q_sipush (jd_of jb_249 dX9_sideTold_19) (by decide +kernel)
theorem p249_22 (lv : jmL) (st : List jmV) (w : jmW) (a : Nat) (j : Int) : rn 249 (22, lv, .inl j :: jvr a :: st, w) = jq_gr (mS w a) 0 j 249 23 lv (.inl (mI w a (jix j)) :: st) (w) := q_iald (jd_of jb_249 dX9_sideTold_22)
theorem p249_23 (lv : jmL) (st : List jmV) (w : jmW) (a : Nat) (j : Int) : rn 249 (23, lv, .inl j :: jvr a :: st, w) = jq_gr (mS w a) 0 j 249 24 lv (.inl (mI w a (jix j)) :: st) (w) := q_iald (jd_of jb_249 dX9_sideTold_23)
theorem p249_24 (lv : jmL) (st : List jmV) (w : jmW) (x : Int) : rn 249 (24, lv, .inl x :: st, w) = rn 249 (25, js lv 2 (.inl x), st, w) := q_istore_n (jd_of jb_249 dX9_sideTold_24) rfl (by rw [jm_249]; decide)
theorem p249_25 (lv : jmL) (st : List jmV) (w : jmW) : rn 249 (25, lv, st, w) = jq_lda 249 26 lv st w (jg lv 1) := q_aload_n (jd_of jb_249 dX9_sideTold_25) rfl
theorem p249_26 (lv : jmL) (st : List jmV) (w : jmW) : rn 249 (26, lv, st, w) = rn 249 (29, lv, .inl (293) :: st, w) := q_sipush (jd_of jb_249 dX9_sideTold_26) (by decide +kernel)
theorem p249_29 (lv : jmL) (st : List jmV) (w : jmW) (y : Int) (x : Option Nat) : rn 249 (29, lv, .inl y :: .inr (.inr x) :: st, w) = rn 249 (30, lv, .inl y :: .inr (.inr x) :: .inl y :: .inr (.inr x) :: st, w) := q_dup2 (jd_of jb_249 dX9_sideTold_29)
theorem p249_30 (lv : jmL) (st : List jmV) (w : jmW) (a : Nat) (j : Int) : rn 249 (30, lv, .inl j :: jvr a :: st, w) = jq_gr (mS w a) 0 j 249 31 lv (.inl (mI w a (jix j)) :: st) (w) := q_iald (jd_of jb_249 dX9_sideTold_30)
theorem p249_31 (lv : jmL) (st : List jmV) (w : jmW) : rn 249 (31, lv, st, w) = rn 249 (32, lv, .inl (1) :: st, w) := q_iconst (jd_of jb_249 dX9_sideTold_31)
theorem p249_32 (lv : jmL) (st : List jmV) (w : jmW) (x y : Int) : rn 249 (32, lv, .inl y :: .inl x :: st, w) = rn 249 (33, lv, .inl (x + y) :: st, w) := q_iadd (jd_of jb_249 dX9_sideTold_32)
theorem p249_33 (lv : jmL) (st : List jmV) (w : jmW) (a : Nat) (j x : Int) : rn 249 (33, lv, .inl x :: .inl j :: jvr a :: st, w) = jq_gw (mS w a) 0 j 249 34 lv (st) (setI w a (jix j) x) := q_iast (jd_of jb_249 dX9_sideTold_33)
theorem p249_34 (lv : jmL) (st : List jmV) (w : jmW) : rn 249 (34, lv, st, w) = jq_lda 249 35 lv st w (jg lv 0) := q_aload_n (jd_of jb_249 dX9_sideTold_34) rfl
theorem p249_35 (lv : jmL) (st : List jmV) (w : jmW) : rn 249 (35, lv, st, w) = jq_lda 249 36 lv st w (jg lv 1) := q_aload_n (jd_of jb_249 dX9_sideTold_35) rfl
theorem p249_36 (lv : jmL) (st : List jmV) (w : jmW) : rn 249 (36, lv, st, w) = jq_ldi 249 37 lv st w (jg lv 2) := q_iload_n (jd_of jb_249 dX9_sideTold_36) rfl
theorem p249_37 (lv : jmL) (st : List jmV) (w : jmW) (b : Nat) (x1 : Option Nat) (x2 : Int) : rn 249 (37, lv, .inl x2 :: .inr (.inr x1) :: jvr b :: st, w) = jq_s (mS w b) (1, 9, 0) (jq_b (decide (jwd st ≤ 8)) (jq_c 249 40 lv st (rn 242 (0, [(0, jvr b), (1, .inr (.inr x1)), (2, .inl x2)], [], w)))) := q_callv (as := [.inr (.inr x1), .inl x2]) (rest := st) (jd_of jb_249 dX9_sideTold_37) jo_249 jk_9_430 rfl rfl rfl jo_242 jf_249_242 (Nat.le_of_ble_eq_true rfl)
theorem p249_40 (lv : jmL) (st : List jmV) (w : jmW) (x : Int) : rn 249 (40, lv, .inl x :: st, w) = if jw x = 0 then rn 249 (47, lv, st, w) else rn 249 (43, lv, st, w) := q_if_eq (jd_of jb_249 dX9_sideTold_40) (by decide)
theorem p249_43 (lv : jmL) (st : List jmV) (w : jmW) : rn 249 (43, lv, st, w) = jq_ldi 249 44 lv st w (jg lv 2) := q_iload_n (jd_of jb_249 dX9_sideTold_43) rfl
theorem p249_44 (lv : jmL) (st : List jmV) (w : jmW) : rn 249 (44, lv, st, w) = rn 249 (48, lv, st, w) := q_goto (jd_of jb_249 dX9_sideTold_44) (by decide)
theorem p249_47 (lv : jmL) (st : List jmV) (w : jmW) : rn 249 (47, lv, st, w) = rn 249 (48, lv, .inl (-1) :: st, w) := q_iconst (jd_of jb_249 dX9_sideTold_47)
theorem p249_48 (lv : jmL) (w : jmW) (x : Int) : rn 249 (48, lv, [.inl x], w) = some (some (.inl x), w) := q_ireturn (jd_of jb_249 dX9_sideTold_48) jr_249
theorem p250_0 (lv : jmL) (st : List jmV) (w : jmW) : rn 250 (0, lv, st, w) = jq_lda 250 1 lv st w (jg lv 1) := q_aload_n (jd_of jb_250 dX9_follows_0) rfl
theorem p250_1 (lv : jmL) (st : List jmV) (w : jmW) : rn 250 (1, lv, st, w) = rn 250 (4, lv, .inl (252) :: st, w) := q_sipush (jd_of jb_250 dX9_follows_1) (by decide +kernel)
theorem p250_4 (lv : jmL) (st : List jmV) (w : jmW) : rn 250 (4, lv, st, w) = jq_ldi 250 5 lv st w (jg lv 2) := q_iload_n (jd_of jb_250 dX9_follows_4) rfl
theorem p250_5 (lv : jmL) (st : List jmV) (w : jmW) (x y : Int) : rn 250 (5, lv, .inl y :: .inl x :: st, w) = rn 250 (6, lv, .inl (x + y) :: st, w) := q_iadd (jd_of jb_250 dX9_follows_5)
theorem p250_6 (lv : jmL) (st : List jmV) (w : jmW) (a : Nat) (j : Int) : rn 250 (6, lv, .inl j :: jvr a :: st, w) = jq_gr (mS w a) 0 j 250 7 lv (.inl (mI w a (jix j)) :: st) (w) := q_iald (jd_of jb_250 dX9_follows_6)
theorem p250_7 (lv : jmL) (st : List jmV) (w : jmW) (x : Int) : rn 250 (7, lv, .inl x :: st, w) = rn 250 (8, js lv 3 (.inl x), st, w) := q_istore_n (jd_of jb_250 dX9_follows_7) rfl (by rw [jm_250]; decide)
theorem p250_8 (lv : jmL) (st : List jmV) (w : jmW) : rn 250 (8, lv, st, w) = jq_lda 250 9 lv st w (jg lv 1) := q_aload_n (jd_of jb_250 dX9_follows_8) rfl
theorem p250_9 (lv : jmL) (st : List jmV) (w : jmW) : rn 250 (9, lv, st, w) = rn 250 (12, lv, .inl (220) :: st, w) := q_sipush (jd_of jb_250 dX9_follows_9) (by decide +kernel)
theorem p250_12 (lv : jmL) (st : List jmV) (w : jmW) : rn 250 (12, lv, st, w) = jq_ldi 250 13 lv st w (jg lv 2) := q_iload_n (jd_of jb_250 dX9_follows_12) rfl
theorem p250_13 (lv : jmL) (st : List jmV) (w : jmW) (x y : Int) : rn 250 (13, lv, .inl y :: .inl x :: st, w) = rn 250 (14, lv, .inl (x + y) :: st, w) := q_iadd (jd_of jb_250 dX9_follows_13)
theorem p250_14 (lv : jmL) (st : List jmV) (w : jmW) (a : Nat) (j : Int) : rn 250 (14, lv, .inl j :: jvr a :: st, w) = jq_gr (mS w a) 0 j 250 15 lv (.inl (mI w a (jix j)) :: st) (w) := q_iald (jd_of jb_250 dX9_follows_14)
theorem p250_15 (lv : jmL) (st : List jmV) (w : jmW) : rn 250 (15, lv, st, w) = jq_lda 250 16 lv st w (jg lv 1) := q_aload_n (jd_of jb_250 dX9_follows_15) rfl
theorem p250_16 (lv : jmL) (st : List jmV) (w : jmW) : rn 250 (16, lv, st, w) = rn 250 (19, lv, .inl (220) :: st, w) := q_sipush (jd_of jb_250 dX9_follows_16) (by decide +kernel)
theorem p250_19 (lv : jmL) (st : List jmV) (w : jmW) : rn 250 (19, lv, st, w) = jq_ldi 250 20 lv st w (jg lv 2) := q_iload_n (jd_of jb_250 dX9_follows_19) rfl
theorem p250_20 (lv : jmL) (st : List jmV) (w : jmW) (x y : Int) : rn 250 (20, lv, .inl y :: .inl x :: st, w) = rn 250 (21, lv, .inl (x + y) :: st, w) := q_iadd (jd_of jb_250 dX9_follows_20)
theorem p250_21 (lv : jmL) (st : List jmV) (w : jmW) : rn 250 (21, lv, st, w) = rn 250 (22, lv, .inl (1) :: st, w) := q_iconst (jd_of jb_250 dX9_follows_21)
theorem p250_22 (lv : jmL) (st : List jmV) (w : jmW) (x y : Int) : rn 250 (22, lv, .inl y :: .inl x :: st, w) = rn 250 (23, lv, .inl (x - y) :: st, w) := q_isub (jd_of jb_250 dX9_follows_22)
theorem p250_23 (lv : jmL) (st : List jmV) (w : jmW) (a : Nat) (j : Int) : rn 250 (23, lv, .inl j :: jvr a :: st, w) = jq_gr (mS w a) 0 j 250 24 lv (.inl (mI w a (jix j)) :: st) (w) := q_iald (jd_of jb_250 dX9_follows_23)
theorem p250_24 (lv : jmL) (st : List jmV) (w : jmW) : rn 250 (24, lv, st, w) = rn 250 (25, lv, .inl (1) :: st, w) := q_iconst (jd_of jb_250 dX9_follows_24)
theorem p250_25 (lv : jmL) (st : List jmV) (w : jmW) (x y : Int) : rn 250 (25, lv, .inl y :: .inl x :: st, w) = rn 250 (26, lv, .inl (x - y) :: st, w) := q_isub (jd_of jb_250 dX9_follows_25)
theorem p250_26 (lv : jmL) (st : List jmV) (w : jmW) (x y : Int) : rn 250 (26, lv, .inl y :: .inl x :: st, w) = if jw x < jw y then rn 250 (29, lv, st, w) else rn 250 (119, lv, st, w) := q_icmp_ge (jd_of jb_250 dX9_follows_26) (by decide)
theorem p250_29 (lv : jmL) (st : List jmV) (w : jmW) : rn 250 (29, lv, st, w) = jq_lda 250 30 lv st w (jg lv 0) := q_aload_n (jd_of jb_250 dX9_follows_29) rfl
theorem p250_30 (lv : jmL) (st : List jmV) (w : jmW) : rn 250 (30, lv, st, w) = jq_lda 250 31 lv st w (jg lv 1) := q_aload_n (jd_of jb_250 dX9_follows_30) rfl
theorem p250_31 (lv : jmL) (st : List jmV) (w : jmW) : rn 250 (31, lv, st, w) = jq_lda 250 32 lv st w (jg lv 1) := q_aload_n (jd_of jb_250 dX9_follows_31) rfl
theorem p250_32 (lv : jmL) (st : List jmV) (w : jmW) : rn 250 (32, lv, st, w) = rn 250 (35, lv, .inl (220) :: st, w) := q_sipush (jd_of jb_250 dX9_follows_32) (by decide +kernel)
theorem p250_35 (lv : jmL) (st : List jmV) (w : jmW) : rn 250 (35, lv, st, w) = jq_ldi 250 36 lv st w (jg lv 2) := q_iload_n (jd_of jb_250 dX9_follows_35) rfl
theorem p250_36 (lv : jmL) (st : List jmV) (w : jmW) (x y : Int) : rn 250 (36, lv, .inl y :: .inl x :: st, w) = rn 250 (37, lv, .inl (x + y) :: st, w) := q_iadd (jd_of jb_250 dX9_follows_36)
theorem p250_37 (lv : jmL) (st : List jmV) (w : jmW) (a : Nat) (j : Int) : rn 250 (37, lv, .inl j :: jvr a :: st, w) = jq_gr (mS w a) 0 j 250 38 lv (.inl (mI w a (jix j)) :: st) (w) := q_iald (jd_of jb_250 dX9_follows_37)
theorem p250_38 (lv : jmL) (st : List jmV) (w : jmW) (b : Nat) (x1 : Option Nat) (x2 : Int) : rn 250 (38, lv, .inl x2 :: .inr (.inr x1) :: jvr b :: st, w) = jq_s (mS w b) (1, 9, 0) (jq_b (decide (jwd st ≤ 8)) (jq_c 250 41 lv st (rn 227 (0, [(0, jvr b), (1, .inr (.inr x1)), (2, .inl x2)], [], w)))) := q_callv (as := [.inr (.inr x1), .inl x2]) (rest := st) (jd_of jb_250 dX9_follows_38) jo_250 jk_9_451 rfl rfl rfl jo_227 jf_250_227 (Nat.le_of_ble_eq_true rfl)
theorem p250_41 (lv : jmL) (st : List jmV) (w : jmW) (x : Int) : rn 250 (41, lv, .inl x :: st, w) = if jw x = 0 then rn 250 (55, lv, st, w) else rn 250 (44, lv, st, w) := q_if_eq (jd_of jb_250 dX9_follows_41) (by decide)
theorem p250_44 (lv : jmL) (st : List jmV) (w : jmW) : rn 250 (44, lv, st, w) = jq_lda 250 45 lv st w (jg lv 1) := q_aload_n (jd_of jb_250 dX9_follows_44) rfl
theorem p250_45 (lv : jmL) (st : List jmV) (w : jmW) : rn 250 (45, lv, st, w) = rn 250 (48, lv, .inl (236) :: st, w) := q_sipush (jd_of jb_250 dX9_follows_45) (by decide +kernel)
theorem p250_48 (lv : jmL) (st : List jmV) (w : jmW) : rn 250 (48, lv, st, w) = jq_ldi 250 49 lv st w (jg lv 2) := q_iload_n (jd_of jb_250 dX9_follows_48) rfl
theorem p250_49 (lv : jmL) (st : List jmV) (w : jmW) (x y : Int) : rn 250 (49, lv, .inl y :: .inl x :: st, w) = rn 250 (50, lv, .inl (x + y) :: st, w) := q_iadd (jd_of jb_250 dX9_follows_49)
theorem p250_50 (lv : jmL) (st : List jmV) (w : jmW) (a : Nat) (j : Int) : rn 250 (50, lv, .inl j :: jvr a :: st, w) = jq_gr (mS w a) 0 j 250 51 lv (.inl (mI w a (jix j)) :: st) (w) := q_iald (jd_of jb_250 dX9_follows_50)
theorem p250_51 (lv : jmL) (st : List jmV) (w : jmW) : rn 250 (51, lv, st, w) = rn 250 (52, lv, .inl (2) :: st, w) := q_iconst (jd_of jb_250 dX9_follows_51)
theorem p250_52 (lv : jmL) (st : List jmV) (w : jmW) (x y : Int) : rn 250 (52, lv, .inl y :: .inl x :: st, w) = if jw x = jw y then rn 250 (55, lv, st, w) else rn 250 (59, lv, st, w) := q_icmp_ne (jd_of jb_250 dX9_follows_52) (by decide)
theorem p250_55 (lv : jmL) (st : List jmV) (w : jmW) : rn 250 (55, lv, st, w) = rn 250 (56, lv, .inl (1) :: st, w) := q_iconst (jd_of jb_250 dX9_follows_55)
theorem p250_56 (lv : jmL) (st : List jmV) (w : jmW) : rn 250 (56, lv, st, w) = rn 250 (75, lv, st, w) := q_goto (jd_of jb_250 dX9_follows_56) (by decide)
theorem p250_59 (lv : jmL) (st : List jmV) (w : jmW) : rn 250 (59, lv, st, w) = jq_lda 250 60 lv st w (jg lv 1) := q_aload_n (jd_of jb_250 dX9_follows_59) rfl
theorem p250_60 (lv : jmL) (st : List jmV) (w : jmW) : rn 250 (60, lv, st, w) = rn 250 (63, lv, .inl (236) :: st, w) := q_sipush (jd_of jb_250 dX9_follows_60) (by decide +kernel)
theorem p250_63 (lv : jmL) (st : List jmV) (w : jmW) : rn 250 (63, lv, st, w) = jq_ldi 250 64 lv st w (jg lv 2) := q_iload_n (jd_of jb_250 dX9_follows_63) rfl
theorem p250_64 (lv : jmL) (st : List jmV) (w : jmW) (x y : Int) : rn 250 (64, lv, .inl y :: .inl x :: st, w) = rn 250 (65, lv, .inl (x + y) :: st, w) := q_iadd (jd_of jb_250 dX9_follows_64)
theorem p250_65 (lv : jmL) (st : List jmV) (w : jmW) (a : Nat) (j : Int) : rn 250 (65, lv, .inl j :: jvr a :: st, w) = jq_gr (mS w a) 0 j 250 66 lv (.inl (mI w a (jix j)) :: st) (w) := q_iald (jd_of jb_250 dX9_follows_65)
theorem p250_66 (lv : jmL) (st : List jmV) (w : jmW) : rn 250 (66, lv, st, w) = rn 250 (67, lv, .inl (3) :: st, w) := q_iconst (jd_of jb_250 dX9_follows_66)
theorem p250_67 (lv : jmL) (st : List jmV) (w : jmW) (x y : Int) : rn 250 (67, lv, .inl y :: .inl x :: st, w) = if jw x = jw y then rn 250 (70, lv, st, w) else rn 250 (74, lv, st, w) := q_icmp_ne (jd_of jb_250 dX9_follows_67) (by decide)
theorem p250_70 (lv : jmL) (st : List jmV) (w : jmW) : rn 250 (70, lv, st, w) = rn 250 (71, lv, .inl (3) :: st, w) := q_iconst (jd_of jb_250 dX9_follows_70)
theorem p250_71 (lv : jmL) (st : List jmV) (w : jmW) : rn 250 (71, lv, st, w) = rn 250 (75, lv, st, w) := q_goto (jd_of jb_250 dX9_follows_71) (by decide)
theorem p250_74 (lv : jmL) (st : List jmV) (w : jmW) : rn 250 (74, lv, st, w) = rn 250 (75, lv, .inl (2) :: st, w) := q_iconst (jd_of jb_250 dX9_follows_74)
theorem p250_75 (lv : jmL) (st : List jmV) (w : jmW) (x : Int) : rn 250 (75, lv, .inl x :: st, w) = rn 250 (77, js lv 4 (.inl x), st, w) := q_istore (jd_of jb_250 dX9_follows_75) (by rw [jm_250]; decide)
theorem p250_77 (lv : jmL) (st : List jmV) (w : jmW) : rn 250 (77, lv, st, w) = jq_ldi 250 79 lv st w (jg lv 4) := q_iload (jd_of jb_250 dX9_follows_77)
theorem p250_79 (lv : jmL) (st : List jmV) (w : jmW) : rn 250 (79, lv, st, w) = jq_ldi 250 80 lv st w (jg lv 3) := q_iload_n (jd_of jb_250 dX9_follows_79) rfl
theorem p250_80 (lv : jmL) (st : List jmV) (w : jmW) (x y : Int) : rn 250 (80, lv, .inl y :: .inl x :: st, w) = if jw y < jw x then rn 250 (83, lv, st, w) else rn 250 (84, lv, st, w) := q_icmp_le (jd_of jb_250 dX9_follows_80) (by decide)
theorem p250_83 (lv : jmL) (w : jmW) : rn 250 (83, lv, [], w) = some (none, w) := q_return (jd_of jb_250 dX9_follows_83) jr_250
theorem p250_84 (lv : jmL) (st : List jmV) (w : jmW) : rn 250 (84, lv, st, w) = jq_ldi 250 85 lv st w (jg lv 3) := q_iload_n (jd_of jb_250 dX9_follows_84) rfl
theorem p250_85 (lv : jmL) (st : List jmV) (w : jmW) : rn 250 (85, lv, st, w) = jq_ldi 250 87 lv st w (jg lv 4) := q_iload (jd_of jb_250 dX9_follows_85)
theorem p250_87 (lv : jmL) (st : List jmV) (w : jmW) (x y : Int) : rn 250 (87, lv, .inl y :: .inl x :: st, w) = rn 250 (88, lv, .inl (x - y) :: st, w) := q_isub (jd_of jb_250 dX9_follows_87)
theorem p250_88 (lv : jmL) (st : List jmV) (w : jmW) (x : Int) : rn 250 (88, lv, .inl x :: st, w) = rn 250 (89, js lv 3 (.inl x), st, w) := q_istore_n (jd_of jb_250 dX9_follows_88) rfl (by rw [jm_250]; decide)
theorem p250_89 (lv : jmL) (st : List jmV) (w : jmW) : rn 250 (89, lv, st, w) = jq_lda 250 90 lv st w (jg lv 1) := q_aload_n (jd_of jb_250 dX9_follows_89) rfl
theorem p250_90 (lv : jmL) (st : List jmV) (w : jmW) : rn 250 (90, lv, st, w) = rn 250 (93, lv, .inl (220) :: st, w) := q_sipush (jd_of jb_250 dX9_follows_90) (by decide +kernel)
theorem p250_93 (lv : jmL) (st : List jmV) (w : jmW) : rn 250 (93, lv, st, w) = jq_ldi 250 94 lv st w (jg lv 2) := q_iload_n (jd_of jb_250 dX9_follows_93) rfl
theorem p250_94 (lv : jmL) (st : List jmV) (w : jmW) (x y : Int) : rn 250 (94, lv, .inl y :: .inl x :: st, w) = rn 250 (95, lv, .inl (x + y) :: st, w) := q_iadd (jd_of jb_250 dX9_follows_94)
theorem p250_95 (lv : jmL) (st : List jmV) (w : jmW) (y : Int) (x : Option Nat) : rn 250 (95, lv, .inl y :: .inr (.inr x) :: st, w) = rn 250 (96, lv, .inl y :: .inr (.inr x) :: .inl y :: .inr (.inr x) :: st, w) := q_dup2 (jd_of jb_250 dX9_follows_95)
theorem p250_96 (lv : jmL) (st : List jmV) (w : jmW) (a : Nat) (j : Int) : rn 250 (96, lv, .inl j :: jvr a :: st, w) = jq_gr (mS w a) 0 j 250 97 lv (.inl (mI w a (jix j)) :: st) (w) := q_iald (jd_of jb_250 dX9_follows_96)
theorem p250_97 (lv : jmL) (st : List jmV) (w : jmW) : rn 250 (97, lv, st, w) = rn 250 (98, lv, .inl (1) :: st, w) := q_iconst (jd_of jb_250 dX9_follows_97)
theorem p250_98 (lv : jmL) (st : List jmV) (w : jmW) (x y : Int) : rn 250 (98, lv, .inl y :: .inl x :: st, w) = rn 250 (99, lv, .inl (x + y) :: st, w) := q_iadd (jd_of jb_250 dX9_follows_98)
theorem p250_99 (lv : jmL) (st : List jmV) (w : jmW) (a : Nat) (j x : Int) : rn 250 (99, lv, .inl x :: .inl j :: jvr a :: st, w) = jq_gw (mS w a) 0 j 250 100 lv (st) (setI w a (jix j) x) := q_iast (jd_of jb_250 dX9_follows_99)
theorem p250_100 (lv : jmL) (st : List jmV) (w : jmW) : rn 250 (100, lv, st, w) = jq_lda 250 101 lv st w (jg lv 0) := q_aload_n (jd_of jb_250 dX9_follows_100) rfl
theorem p250_101 (lv : jmL) (st : List jmV) (w : jmW) (a : Nat) : rn 250 (101, lv, jvr a :: st, w) = jq_gs (mS w a) (1, 9, 0) 250 104 lv (.inr (.inr (mR w a 29)) :: st) (w) := q_getf (v := fun w a => .inr (.inr (mR w a 29))) (jd_of jb_250 dX9_follows_101) jo_250 jk_9_42 (fun _ _ => rfl)
theorem p250_104 (lv : jmL) (st : List jmV) (w : jmW) : rn 250 (104, lv, st, w) = jq_lda 250 105 lv st w (jg lv 1) := q_aload_n (jd_of jb_250 dX9_follows_104) rfl
theorem p250_105 (lv : jmL) (st : List jmV) (w : jmW) : rn 250 (105, lv, st, w) = rn 250 (108, lv, .inl (204) :: st, w) := q_sipush (jd_of jb_250 dX9_follows_105) (by decide +kernel)
theorem p250_108 (lv : jmL) (st : List jmV) (w : jmW) : rn 250 (108, lv, st, w) = jq_ldi 250 109 lv st w (jg lv 2) := q_iload_n (jd_of jb_250 dX9_follows_108) rfl
theorem p250_109 (lv : jmL) (st : List jmV) (w : jmW) (x y : Int) : rn 250 (109, lv, .inl y :: .inl x :: st, w) = rn 250 (110, lv, .inl (x + y) :: st, w) := q_iadd (jd_of jb_250 dX9_follows_109)
theorem p250_110 (lv : jmL) (st : List jmV) (w : jmW) (a : Nat) (j : Int) : rn 250 (110, lv, .inl j :: jvr a :: st, w) = jq_gr (mS w a) 0 j 250 111 lv (.inl (mI w a (jix j)) :: st) (w) := q_iald (jd_of jb_250 dX9_follows_110)
theorem p250_111 (lv : jmL) (st : List jmV) (w : jmW) (y : Int) (x : Option Nat) : rn 250 (111, lv, .inl y :: .inr (.inr x) :: st, w) = rn 250 (112, lv, .inl y :: .inr (.inr x) :: .inl y :: .inr (.inr x) :: st, w) := q_dup2 (jd_of jb_250 dX9_follows_111)
theorem p250_112 (lv : jmL) (st : List jmV) (w : jmW) (a : Nat) (j : Int) : rn 250 (112, lv, .inl j :: jvr a :: st, w) = jq_gr (mS w a) 0 j 250 113 lv (.inl (mI w a (jix j)) :: st) (w) := q_iald (jd_of jb_250 dX9_follows_112)
theorem p250_113 (lv : jmL) (st : List jmV) (w : jmW) : rn 250 (113, lv, st, w) = rn 250 (114, lv, .inl (1) :: st, w) := q_iconst (jd_of jb_250 dX9_follows_113)
theorem p250_114 (lv : jmL) (st : List jmV) (w : jmW) (x y : Int) : rn 250 (114, lv, .inl y :: .inl x :: st, w) = rn 250 (115, lv, .inl (x + y) :: st, w) := q_iadd (jd_of jb_250 dX9_follows_114)
theorem p250_115 (lv : jmL) (st : List jmV) (w : jmW) (a : Nat) (j x : Int) : rn 250 (115, lv, .inl x :: .inl j :: jvr a :: st, w) = jq_gw (mS w a) 0 j 250 116 lv (st) (setI w a (jix j) x) := q_iast (jd_of jb_250 dX9_follows_115)
theorem p250_116 (lv : jmL) (st : List jmV) (w : jmW) : rn 250 (116, lv, st, w) = rn 250 (8, lv, st, w) := q_goto (jd_of jb_250 dX9_follows_116) (by decide)
theorem p250_119 (lv : jmL) (w : jmW) : rn 250 (119, lv, [], w) = some (none, w) := q_return (jd_of jb_250 dX9_follows_119) jr_250
theorem p251_0 (lv : jmL) (st : List jmV) (w : jmW) : rn 251 (0, lv, st, w) = rn 251 (1, lv, .inl (1) :: st, w) := q_iconst (jd_of jb_251 dX9_tears_0)
theorem p251_1 (lv : jmL) (st : List jmV) (w : jmW) (x : Int) : rn 251 (1, lv, .inl x :: st, w) = rn 251 (2, js lv 2 (.inl x), st, w) := q_istore_n (jd_of jb_251 dX9_tears_1) rfl (by rw [jm_251]; decide)
theorem p251_2 (lv : jmL) (st : List jmV) (w : jmW) : rn 251 (2, lv, st, w) = jq_ldi 251 3 lv st w (jg lv 2) := q_iload_n (jd_of jb_251 dX9_tears_2) rfl
theorem p251_3 (lv : jmL) (st : List jmV) (w : jmW) : rn 251 (3, lv, st, w) = jq_lda 251 4 lv st w (jg lv 1) := q_aload_n (jd_of jb_251 dX9_tears_3) rfl
theorem p251_4 (lv : jmL) (st : List jmV) (w : jmW) : rn 251 (4, lv, st, w) = rn 251 (7, lv, .inl (289) :: st, w) := q_sipush (jd_of jb_251 dX9_tears_4) (by decide +kernel)
theorem p251_7 (lv : jmL) (st : List jmV) (w : jmW) (a : Nat) (j : Int) : rn 251 (7, lv, .inl j :: jvr a :: st, w) = jq_gr (mS w a) 0 j 251 8 lv (.inl (mI w a (jix j)) :: st) (w) := q_iald (jd_of jb_251 dX9_tears_7)
theorem p251_8 (lv : jmL) (st : List jmV) (w : jmW) (x y : Int) : rn 251 (8, lv, .inl y :: .inl x :: st, w) = if jw x < jw y then rn 251 (11, lv, st, w) else rn 251 (65, lv, st, w) := q_icmp_ge (jd_of jb_251 dX9_tears_8) (by decide)
theorem p251_11 (lv : jmL) (st : List jmV) (w : jmW) : rn 251 (11, lv, st, w) = jq_lda 251 12 lv st w (jg lv 1) := q_aload_n (jd_of jb_251 dX9_tears_11) rfl
theorem p251_12 (lv : jmL) (st : List jmV) (w : jmW) : rn 251 (12, lv, st, w) = jq_ldi 251 13 lv st w (jg lv 2) := q_iload_n (jd_of jb_251 dX9_tears_12) rfl
theorem p251_13 (lv : jmL) (st : List jmV) (w : jmW) (x1 : Option Nat) (x2 : Int) : rn 251 (13, lv, .inl x2 :: .inr (.inr x1) :: st, w) = jq_b (decide (jwd st ≤ 8)) (jq_c 251 16 lv st (rn 222 (0, [(0, .inr (.inr x1)), (1, .inl x2)], [], w))) := q_calls (as := [.inr (.inr x1), .inl x2]) (rest := st) (jd_of jb_251 dX9_tears_13) jo_251 jk_9_458 rfl rfl rfl jf_251_222 (Nat.le_of_ble_eq_true rfl)
theorem p251_16 (lv : jmL) (st : List jmV) (w : jmW) : rn 251 (16, lv, st, w) = jq_lda 251 17 lv st w (jg lv 1) := q_aload_n (jd_of jb_251 dX9_tears_16) rfl
theorem p251_17 (lv : jmL) (st : List jmV) (w : jmW) : rn 251 (17, lv, st, w) = rn 251 (20, lv, .inl (268) :: st, w) := q_sipush (jd_of jb_251 dX9_tears_17) (by decide +kernel)
theorem p251_20 (lv : jmL) (st : List jmV) (w : jmW) : rn 251 (20, lv, st, w) = jq_ldi 251 21 lv st w (jg lv 2) := q_iload_n (jd_of jb_251 dX9_tears_20) rfl
theorem p251_21 (lv : jmL) (st : List jmV) (w : jmW) (x y : Int) : rn 251 (21, lv, .inl y :: .inl x :: st, w) = rn 251 (22, lv, .inl (x + y) :: st, w) := q_iadd (jd_of jb_251 dX9_tears_21)
theorem p251_22 (lv : jmL) (st : List jmV) (w : jmW) (a : Nat) (j : Int) : rn 251 (22, lv, .inl j :: jvr a :: st, w) = jq_gr (mS w a) 0 j 251 23 lv (.inl (mI w a (jix j)) :: st) (w) := q_iald (jd_of jb_251 dX9_tears_22)
theorem p251_23 (lv : jmL) (st : List jmV) (w : jmW) (x y : Int) : rn 251 (23, lv, .inl y :: .inl x :: st, w) = if jw y < jw x then rn 251 (29, lv, st, w) else rn 251 (26, lv, st, w) := q_icmp_gt (jd_of jb_251 dX9_tears_23) (by decide)
theorem p251_26 (lv : jmL) (st : List jmV) (w : jmW) : rn 251 (26, lv, st, w) = rn 251 (59, lv, st, w) := q_goto (jd_of jb_251 dX9_tears_26) (by decide)
theorem p251_29 (lv : jmL) (st : List jmV) (w : jmW) : rn 251 (29, lv, st, w) = jq_lda 251 30 lv st w (jg lv 0) := q_aload_n (jd_of jb_251 dX9_tears_29) rfl
theorem p251_30i (lv : jmL) (st : List jmV) (w : jmW) (x : Int) : rn 251 (30, lv, .inl x :: st, w) = rn 251 (31, lv, .inl x :: .inl x :: st, w) := q_dup_i (jd_of jb_251 dX9_tears_30)
theorem p251_30a (lv : jmL) (st : List jmV) (w : jmW) (x : Option Nat) : rn 251 (30, lv, .inr (.inr x) :: st, w) = rn 251 (31, lv, .inr (.inr x) :: .inr (.inr x) :: st, w) := q_dup_a (jd_of jb_251 dX9_tears_30)
theorem p251_31 (lv : jmL) (st : List jmV) (w : jmW) (a : Nat) : rn 251 (31, lv, jvr a :: st, w) = jq_gs (mS w a) (1, 9, 0) 251 34 lv (.inl (mI w a 31) :: st) (w) := q_getf (v := fun w a => .inl (mI w a 31)) (jd_of jb_251 dX9_tears_31) jo_251 jk_9_461 (fun _ _ => rfl)
theorem p251_34 (lv : jmL) (st : List jmV) (w : jmW) : rn 251 (34, lv, st, w) = jq_lda 251 35 lv st w (jg lv 1) := q_aload_n (jd_of jb_251 dX9_tears_34) rfl
theorem p251_35 (lv : jmL) (st : List jmV) (w : jmW) : rn 251 (35, lv, st, w) = rn 251 (38, lv, .inl (289) :: st, w) := q_sipush (jd_of jb_251 dX9_tears_35) (by decide +kernel)
theorem p251_38 (lv : jmL) (st : List jmV) (w : jmW) (a : Nat) (j : Int) : rn 251 (38, lv, .inl j :: jvr a :: st, w) = jq_gr (mS w a) 0 j 251 39 lv (.inl (mI w a (jix j)) :: st) (w) := q_iald (jd_of jb_251 dX9_tears_38)
theorem p251_39 (lv : jmL) (st : List jmV) (w : jmW) : rn 251 (39, lv, st, w) = jq_ldi 251 40 lv st w (jg lv 2) := q_iload_n (jd_of jb_251 dX9_tears_39) rfl
theorem p251_40 (lv : jmL) (st : List jmV) (w : jmW) (x y : Int) : rn 251 (40, lv, .inl y :: .inl x :: st, w) = rn 251 (41, lv, .inl (x - y) :: st, w) := q_isub (jd_of jb_251 dX9_tears_40)
theorem p251_41 (lv : jmL) (st : List jmV) (w : jmW) (x y : Int) : rn 251 (41, lv, .inl y :: .inl x :: st, w) = rn 251 (42, lv, .inl (x + y) :: st, w) := q_iadd (jd_of jb_251 dX9_tears_41)
theorem p251_42 (lv : jmL) (st : List jmV) (w : jmW) (a : Nat) (x : Int) : rn 251 (42, lv, .inl x :: jvr a :: st, w) = jq_gs (mS w a) (1, 9, 0) 251 45 lv (st) (setI w a 31 x) := q_putf (jd_of jb_251 dX9_tears_42) jo_251 jk_9_461 (Or.inl rfl) rfl
theorem p251_45 (lv : jmL) (st : List jmV) (w : jmW) : rn 251 (45, lv, st, w) = jq_lda 251 46 lv st w (jg lv 1) := q_aload_n (jd_of jb_251 dX9_tears_45) rfl
theorem p251_46 (lv : jmL) (st : List jmV) (w : jmW) : rn 251 (46, lv, st, w) = rn 251 (49, lv, .inl (289) :: st, w) := q_sipush (jd_of jb_251 dX9_tears_46) (by decide +kernel)
theorem p251_49 (lv : jmL) (st : List jmV) (w : jmW) : rn 251 (49, lv, st, w) = jq_ldi 251 50 lv st w (jg lv 2) := q_iload_n (jd_of jb_251 dX9_tears_49) rfl
theorem p251_50 (lv : jmL) (st : List jmV) (w : jmW) (a : Nat) (j x : Int) : rn 251 (50, lv, .inl x :: .inl j :: jvr a :: st, w) = jq_gw (mS w a) 0 j 251 51 lv (st) (setI w a (jix j) x) := q_iast (jd_of jb_251 dX9_tears_50)
theorem p251_51 (lv : jmL) (st : List jmV) (w : jmW) : rn 251 (51, lv, st, w) = jq_lda 251 52 lv st w (jg lv 1) := q_aload_n (jd_of jb_251 dX9_tears_51) rfl
theorem p251_52 (lv : jmL) (st : List jmV) (w : jmW) : rn 251 (52, lv, st, w) = rn 251 (55, lv, .inl (204) :: st, w) := q_sipush (jd_of jb_251 dX9_tears_52) (by decide +kernel)
theorem p251_55 (lv : jmL) (st : List jmV) (w : jmW) : rn 251 (55, lv, st, w) = jq_ldi 251 56 lv st w (jg lv 2) := q_iload_n (jd_of jb_251 dX9_tears_55) rfl
theorem p251_56 (lv : jmL) (st : List jmV) (w : jmW) (x y : Int) : rn 251 (56, lv, .inl y :: .inl x :: st, w) = rn 251 (57, lv, .inl (x + y) :: st, w) := q_iadd (jd_of jb_251 dX9_tears_56)
theorem p251_57 (lv : jmL) (st : List jmV) (w : jmW) (a : Nat) (j : Int) : rn 251 (57, lv, .inl j :: jvr a :: st, w) = jq_gr (mS w a) 0 j 251 58 lv (.inl (mI w a (jix j)) :: st) (w) := q_iald (jd_of jb_251 dX9_tears_57)
theorem p251_58 (lv : jmL) (w : jmW) (x : Int) : rn 251 (58, lv, [.inl x], w) = some (some (.inl x), w) := q_ireturn (jd_of jb_251 dX9_tears_58) jr_251
theorem p251_59 (lv : jmL) (st : List jmV) (w : jmW) : rn 251 (59, lv, st, w) = jq_inc 251 62 lv 2 (1) st w (jg lv 2) := q_iinc (jd_of jb_251 dX9_tears_59) (by rw [jm_251]; decide)
theorem p251_62 (lv : jmL) (st : List jmV) (w : jmW) : rn 251 (62, lv, st, w) = rn 251 (2, lv, st, w) := q_goto (jd_of jb_251 dX9_tears_62) (by decide)
theorem p251_65 (lv : jmL) (st : List jmV) (w : jmW) : rn 251 (65, lv, st, w) = rn 251 (66, lv, .inl (-1) :: st, w) := q_iconst (jd_of jb_251 dX9_tears_65)
theorem p251_66 (lv : jmL) (w : jmW) (x : Int) : rn 251 (66, lv, [.inl x], w) = some (some (.inl x), w) := q_ireturn (jd_of jb_251 dX9_tears_66) jr_251
theorem p252_0 (lv : jmL) (st : List jmV) (w : jmW) : rn 252 (0, lv, st, w) = jq_lda 252 1 lv st w (jg lv 1) := q_aload_n (jd_of jb_252 dX9_auntsLeave_0) rfl
theorem p252_1 (lv : jmL) (st : List jmV) (w : jmW) : rn 252 (1, lv, st, w) = rn 252 (4, lv, .inl (289) :: st, w) := q_sipush (jd_of jb_252 dX9_auntsLeave_1) (by decide +kernel)
theorem p252_4 (lv : jmL) (st : List jmV) (w : jmW) (a : Nat) (j : Int) : rn 252 (4, lv, .inl j :: jvr a :: st, w) = jq_gr (mS w a) 0 j 252 5 lv (.inl (mI w a (jix j)) :: st) (w) := q_iald (jd_of jb_252 dX9_auntsLeave_4)
theorem p252_5 (lv : jmL) (st : List jmV) (w : jmW) : rn 252 (5, lv, st, w) = rn 252 (6, lv, .inl (1) :: st, w) := q_iconst (jd_of jb_252 dX9_auntsLeave_5)
theorem p252_6 (lv : jmL) (st : List jmV) (w : jmW) (x y : Int) : rn 252 (6, lv, .inl y :: .inl x :: st, w) = rn 252 (7, lv, .inl (x - y) :: st, w) := q_isub (jd_of jb_252 dX9_auntsLeave_6)
theorem p252_7 (lv : jmL) (st : List jmV) (w : jmW) (x : Int) : rn 252 (7, lv, .inl x :: st, w) = rn 252 (8, js lv 2 (.inl x), st, w) := q_istore_n (jd_of jb_252 dX9_auntsLeave_7) rfl (by rw [jm_252]; decide)
theorem p252_8 (lv : jmL) (st : List jmV) (w : jmW) : rn 252 (8, lv, st, w) = jq_ldi 252 9 lv st w (jg lv 2) := q_iload_n (jd_of jb_252 dX9_auntsLeave_8) rfl
theorem p252_9 (lv : jmL) (st : List jmV) (w : jmW) (x : Int) : rn 252 (9, lv, .inl x :: st, w) = if 0 < jw x then rn 252 (12, lv, st, w) else rn 252 (51, lv, st, w) := q_if_le (jd_of jb_252 dX9_auntsLeave_9) (by decide)
theorem p252_12 (lv : jmL) (st : List jmV) (w : jmW) : rn 252 (12, lv, st, w) = jq_lda 252 13 lv st w (jg lv 1) := q_aload_n (jd_of jb_252 dX9_auntsLeave_12) rfl
theorem p252_13 (lv : jmL) (st : List jmV) (w : jmW) : rn 252 (13, lv, st, w) = rn 252 (16, lv, .inl (236) :: st, w) := q_sipush (jd_of jb_252 dX9_auntsLeave_13) (by decide +kernel)
theorem p252_16 (lv : jmL) (st : List jmV) (w : jmW) : rn 252 (16, lv, st, w) = jq_ldi 252 17 lv st w (jg lv 2) := q_iload_n (jd_of jb_252 dX9_auntsLeave_16) rfl
theorem p252_17 (lv : jmL) (st : List jmV) (w : jmW) (x y : Int) : rn 252 (17, lv, .inl y :: .inl x :: st, w) = rn 252 (18, lv, .inl (x + y) :: st, w) := q_iadd (jd_of jb_252 dX9_auntsLeave_17)
theorem p252_18 (lv : jmL) (st : List jmV) (w : jmW) (a : Nat) (j : Int) : rn 252 (18, lv, .inl j :: jvr a :: st, w) = jq_gr (mS w a) 0 j 252 19 lv (.inl (mI w a (jix j)) :: st) (w) := q_iald (jd_of jb_252 dX9_auntsLeave_18)
theorem p252_19 (lv : jmL) (st : List jmV) (w : jmW) : rn 252 (19, lv, st, w) = rn 252 (20, lv, .inl (1) :: st, w) := q_iconst (jd_of jb_252 dX9_auntsLeave_19)
theorem p252_20 (lv : jmL) (st : List jmV) (w : jmW) (x y : Int) : rn 252 (20, lv, .inl y :: .inl x :: st, w) = if jw x = jw y then rn 252 (23, lv, st, w) else rn 252 (45, lv, st, w) := q_icmp_ne (jd_of jb_252 dX9_auntsLeave_20) (by decide)
theorem p252_23 (lv : jmL) (st : List jmV) (w : jmW) : rn 252 (23, lv, st, w) = jq_lda 252 24 lv st w (jg lv 0) := q_aload_n (jd_of jb_252 dX9_auntsLeave_23) rfl
theorem p252_24 (lv : jmL) (st : List jmV) (w : jmW) (a : Nat) : rn 252 (24, lv, jvr a :: st, w) = jq_gs (mS w a) (1, 9, 0) 252 27 lv (.inr (.inr (mR w a 3)) :: st) (w) := q_getf (v := fun w a => .inr (.inr (mR w a 3))) (jd_of jb_252 dX9_auntsLeave_24) jo_252 jk_9_389 (fun _ _ => rfl)
theorem p252_27 (lv : jmL) (st : List jmV) (w : jmW) (a : Nat) : rn 252 (27, lv, jvr a :: st, w) = jq_gs (mS w a) (1, 8, 0) 252 30 lv (.inr (.inr (mR w a 17)) :: st) (w) := q_getf (v := fun w a => .inr (.inr (mR w a 17))) (jd_of jb_252 dX9_auntsLeave_27) jo_252 jk_9_275 (fun _ _ => rfl)
theorem p252_30 (lv : jmL) (st : List jmV) (w : jmW) : rn 252 (30, lv, st, w) = jq_lda 252 31 lv st w (jg lv 1) := q_aload_n (jd_of jb_252 dX9_auntsLeave_30) rfl
theorem p252_31 (lv : jmL) (st : List jmV) (w : jmW) : rn 252 (31, lv, st, w) = jq_ldi 252 32 lv st w (jg lv 2) := q_iload_n (jd_of jb_252 dX9_auntsLeave_31) rfl
theorem p252_32 (lv : jmL) (st : List jmV) (w : jmW) (x1 : Option Nat) (x2 : Int) : rn 252 (32, lv, .inl x2 :: .inr (.inr x1) :: st, w) = jq_b (decide (jwd st ≤ 8)) (jq_c 252 35 lv st (rn 221 (0, [(0, .inr (.inr x1)), (1, .inl x2)], [], w))) := q_calls (as := [.inr (.inr x1), .inl x2]) (rest := st) (jd_of jb_252 dX9_auntsLeave_32) jo_252 jk_9_409 rfl rfl rfl jf_252_221 (Nat.le_of_ble_eq_true rfl)
theorem p252_35 (lv : jmL) (st : List jmV) (w : jmW) (a : Nat) (j : Int) : rn 252 (35, lv, .inl j :: jvr a :: st, w) = jq_gr (mS w a) 0 j 252 36 lv (.inl (mI w a (jix j)) :: st) (w) := q_iald (jd_of jb_252 dX9_auntsLeave_35)
theorem p252_36 (lv : jmL) (st : List jmV) (w : jmW) : rn 252 (36, lv, st, w) = rn 252 (37, lv, .inl (1) :: st, w) := q_iconst (jd_of jb_252 dX9_auntsLeave_36)
theorem p252_37 (lv : jmL) (st : List jmV) (w : jmW) (x y : Int) : rn 252 (37, lv, .inl y :: .inl x :: st, w) = if jw x = jw y then rn 252 (40, lv, st, w) else rn 252 (45, lv, st, w) := q_icmp_ne (jd_of jb_252 dX9_auntsLeave_37) (by decide)
theorem p252_40 (lv : jmL) (st : List jmV) (w : jmW) : rn 252 (40, lv, st, w) = jq_lda 252 41 lv st w (jg lv 1) := q_aload_n (jd_of jb_252 dX9_auntsLeave_40) rfl
theorem p252_41 (lv : jmL) (st : List jmV) (w : jmW) : rn 252 (41, lv, st, w) = jq_ldi 252 42 lv st w (jg lv 2) := q_iload_n (jd_of jb_252 dX9_auntsLeave_41) rfl
theorem p252_42 (lv : jmL) (st : List jmV) (w : jmW) (x1 : Option Nat) (x2 : Int) : rn 252 (42, lv, .inl x2 :: .inr (.inr x1) :: st, w) = jq_b (decide (jwd st ≤ 8)) (jq_c 252 45 lv st (rn 253 (0, [(0, .inr (.inr x1)), (1, .inl x2)], [], w))) := q_calls (as := [.inr (.inr x1), .inl x2]) (rest := st) (jd_of jb_252 dX9_auntsLeave_42) jo_252 jk_9_464 rfl rfl rfl jf_252_253 (Nat.le_of_ble_eq_true rfl)
theorem p252_45 (lv : jmL) (st : List jmV) (w : jmW) : rn 252 (45, lv, st, w) = jq_inc 252 48 lv 2 (-1) st w (jg lv 2) := q_iinc (jd_of jb_252 dX9_auntsLeave_45) (by rw [jm_252]; decide)
theorem p252_48 (lv : jmL) (st : List jmV) (w : jmW) : rn 252 (48, lv, st, w) = rn 252 (8, lv, st, w) := q_goto (jd_of jb_252 dX9_auntsLeave_48) (by decide)
theorem p252_51 (lv : jmL) (w : jmW) : rn 252 (51, lv, [], w) = some (none, w) := q_return (jd_of jb_252 dX9_auntsLeave_51) jr_252
theorem p253_0 (lv : jmL) (st : List jmV) (w : jmW) : rn 253 (0, lv, st, w) = jq_ldi 253 1 lv st w (jg lv 1) := q_iload_n (jd_of jb_253 dX9_outs_0) rfl
theorem p253_1 (lv : jmL) (st : List jmV) (w : jmW) (x : Int) : rn 253 (1, lv, .inl x :: st, w) = rn 253 (2, js lv 2 (.inl x), st, w) := q_istore_n (jd_of jb_253 dX9_outs_1) rfl (by rw [jm_253]; decide)
theorem p253_2 (lv : jmL) (st : List jmV) (w : jmW) : rn 253 (2, lv, st, w) = jq_ldi 253 3 lv st w (jg lv 2) := q_iload_n (jd_of jb_253 dX9_outs_2) rfl
theorem p253_3 (lv : jmL) (st : List jmV) (w : jmW) : rn 253 (3, lv, st, w) = rn 253 (4, lv, .inl (1) :: st, w) := q_iconst (jd_of jb_253 dX9_outs_3)
theorem p253_4 (lv : jmL) (st : List jmV) (w : jmW) (x y : Int) : rn 253 (4, lv, .inl y :: .inl x :: st, w) = rn 253 (5, lv, .inl (x + y) :: st, w) := q_iadd (jd_of jb_253 dX9_outs_4)
theorem p253_5 (lv : jmL) (st : List jmV) (w : jmW) : rn 253 (5, lv, st, w) = jq_lda 253 6 lv st w (jg lv 0) := q_aload_n (jd_of jb_253 dX9_outs_5) rfl
theorem p253_6 (lv : jmL) (st : List jmV) (w : jmW) : rn 253 (6, lv, st, w) = rn 253 (9, lv, .inl (289) :: st, w) := q_sipush (jd_of jb_253 dX9_outs_6) (by decide +kernel)
theorem p253_9 (lv : jmL) (st : List jmV) (w : jmW) (a : Nat) (j : Int) : rn 253 (9, lv, .inl j :: jvr a :: st, w) = jq_gr (mS w a) 0 j 253 10 lv (.inl (mI w a (jix j)) :: st) (w) := q_iald (jd_of jb_253 dX9_outs_9)
theorem p253_10 (lv : jmL) (st : List jmV) (w : jmW) (x y : Int) : rn 253 (10, lv, .inl y :: .inl x :: st, w) = if jw x < jw y then rn 253 (13, lv, st, w) else rn 253 (27, lv, st, w) := q_icmp_ge (jd_of jb_253 dX9_outs_10) (by decide)
theorem p253_13 (lv : jmL) (st : List jmV) (w : jmW) : rn 253 (13, lv, st, w) = jq_lda 253 14 lv st w (jg lv 0) := q_aload_n (jd_of jb_253 dX9_outs_13) rfl
theorem p253_14 (lv : jmL) (st : List jmV) (w : jmW) : rn 253 (14, lv, st, w) = jq_ldi 253 15 lv st w (jg lv 2) := q_iload_n (jd_of jb_253 dX9_outs_14) rfl
theorem p253_15 (lv : jmL) (st : List jmV) (w : jmW) : rn 253 (15, lv, st, w) = rn 253 (16, lv, .inl (1) :: st, w) := q_iconst (jd_of jb_253 dX9_outs_15)
theorem p253_16 (lv : jmL) (st : List jmV) (w : jmW) (x y : Int) : rn 253 (16, lv, .inl y :: .inl x :: st, w) = rn 253 (17, lv, .inl (x + y) :: st, w) := q_iadd (jd_of jb_253 dX9_outs_16)
theorem p253_17 (lv : jmL) (st : List jmV) (w : jmW) : rn 253 (17, lv, st, w) = jq_ldi 253 18 lv st w (jg lv 2) := q_iload_n (jd_of jb_253 dX9_outs_17) rfl
theorem p253_18 (lv : jmL) (st : List jmV) (w : jmW) (x1 : Option Nat) (x2 : Int) (x3 : Int) : rn 253 (18, lv, .inl x3 :: .inl x2 :: .inr (.inr x1) :: st, w) = jq_b (decide (jwd st ≤ 8)) (jq_c 253 21 lv st (rn 254 (0, [(0, .inr (.inr x1)), (1, .inl x2), (2, .inl x3)], [], w))) := q_calls (as := [.inr (.inr x1), .inl x2, .inl x3]) (rest := st) (jd_of jb_253 dX9_outs_18) jo_253 jk_9_454 rfl rfl rfl jf_253_254 (Nat.le_of_ble_eq_true rfl)
theorem p253_21 (lv : jmL) (st : List jmV) (w : jmW) : rn 253 (21, lv, st, w) = jq_inc 253 24 lv 2 (1) st w (jg lv 2) := q_iinc (jd_of jb_253 dX9_outs_21) (by rw [jm_253]; decide)
theorem p253_24 (lv : jmL) (st : List jmV) (w : jmW) : rn 253 (24, lv, st, w) = rn 253 (2, lv, st, w) := q_goto (jd_of jb_253 dX9_outs_24) (by decide)
theorem p253_27 (lv : jmL) (st : List jmV) (w : jmW) : rn 253 (27, lv, st, w) = jq_lda 253 28 lv st w (jg lv 0) := q_aload_n (jd_of jb_253 dX9_outs_27) rfl
theorem p253_28 (lv : jmL) (st : List jmV) (w : jmW) : rn 253 (28, lv, st, w) = rn 253 (31, lv, .inl (289) :: st, w) := q_sipush (jd_of jb_253 dX9_outs_28) (by decide +kernel)
theorem p253_31 (lv : jmL) (st : List jmV) (w : jmW) (y : Int) (x : Option Nat) : rn 253 (31, lv, .inl y :: .inr (.inr x) :: st, w) = rn 253 (32, lv, .inl y :: .inr (.inr x) :: .inl y :: .inr (.inr x) :: st, w) := q_dup2 (jd_of jb_253 dX9_outs_31)
theorem p253_32 (lv : jmL) (st : List jmV) (w : jmW) (a : Nat) (j : Int) : rn 253 (32, lv, .inl j :: jvr a :: st, w) = jq_gr (mS w a) 0 j 253 33 lv (.inl (mI w a (jix j)) :: st) (w) := q_iald (jd_of jb_253 dX9_outs_32)
theorem p253_33 (lv : jmL) (st : List jmV) (w : jmW) : rn 253 (33, lv, st, w) = rn 253 (34, lv, .inl (1) :: st, w) := q_iconst (jd_of jb_253 dX9_outs_33)
theorem p253_34 (lv : jmL) (st : List jmV) (w : jmW) (x y : Int) : rn 253 (34, lv, .inl y :: .inl x :: st, w) = rn 253 (35, lv, .inl (x - y) :: st, w) := q_isub (jd_of jb_253 dX9_outs_34)
theorem p253_35 (lv : jmL) (st : List jmV) (w : jmW) (a : Nat) (j x : Int) : rn 253 (35, lv, .inl x :: .inl j :: jvr a :: st, w) = jq_gw (mS w a) 0 j 253 36 lv (st) (setI w a (jix j) x) := q_iast (jd_of jb_253 dX9_outs_35)
theorem p253_36 (lv : jmL) (w : jmW) : rn 253 (36, lv, [], w) = some (none, w) := q_return (jd_of jb_253 dX9_outs_36) jr_253
theorem p254_0 (lv : jmL) (st : List jmV) (w : jmW) : rn 254 (0, lv, st, w) = jq_lda 254 1 lv st w (jg lv 0) := q_aload_n (jd_of jb_254 dX9_moves_0) rfl
theorem p254_1 (lv : jmL) (st : List jmV) (w : jmW) : rn 254 (1, lv, st, w) = rn 254 (4, lv, .inl (204) :: st, w) := q_sipush (jd_of jb_254 dX9_moves_1) (by decide +kernel)
theorem p254_4 (lv : jmL) (st : List jmV) (w : jmW) : rn 254 (4, lv, st, w) = jq_ldi 254 5 lv st w (jg lv 2) := q_iload_n (jd_of jb_254 dX9_moves_4) rfl
theorem p254_5 (lv : jmL) (st : List jmV) (w : jmW) (x y : Int) : rn 254 (5, lv, .inl y :: .inl x :: st, w) = rn 254 (6, lv, .inl (x + y) :: st, w) := q_iadd (jd_of jb_254 dX9_moves_5)
theorem p254_6 (lv : jmL) (st : List jmV) (w : jmW) : rn 254 (6, lv, st, w) = jq_lda 254 7 lv st w (jg lv 0) := q_aload_n (jd_of jb_254 dX9_moves_6) rfl
theorem p254_7 (lv : jmL) (st : List jmV) (w : jmW) : rn 254 (7, lv, st, w) = rn 254 (10, lv, .inl (204) :: st, w) := q_sipush (jd_of jb_254 dX9_moves_7) (by decide +kernel)
theorem p254_10 (lv : jmL) (st : List jmV) (w : jmW) : rn 254 (10, lv, st, w) = jq_ldi 254 11 lv st w (jg lv 1) := q_iload_n (jd_of jb_254 dX9_moves_10) rfl
theorem p254_11 (lv : jmL) (st : List jmV) (w : jmW) (x y : Int) : rn 254 (11, lv, .inl y :: .inl x :: st, w) = rn 254 (12, lv, .inl (x + y) :: st, w) := q_iadd (jd_of jb_254 dX9_moves_11)
theorem p254_12 (lv : jmL) (st : List jmV) (w : jmW) (a : Nat) (j : Int) : rn 254 (12, lv, .inl j :: jvr a :: st, w) = jq_gr (mS w a) 0 j 254 13 lv (.inl (mI w a (jix j)) :: st) (w) := q_iald (jd_of jb_254 dX9_moves_12)
theorem p254_13 (lv : jmL) (st : List jmV) (w : jmW) (a : Nat) (j x : Int) : rn 254 (13, lv, .inl x :: .inl j :: jvr a :: st, w) = jq_gw (mS w a) 0 j 254 14 lv (st) (setI w a (jix j) x) := q_iast (jd_of jb_254 dX9_moves_13)
theorem p254_14 (lv : jmL) (st : List jmV) (w : jmW) : rn 254 (14, lv, st, w) = jq_lda 254 15 lv st w (jg lv 0) := q_aload_n (jd_of jb_254 dX9_moves_14) rfl
theorem p254_15 (lv : jmL) (st : List jmV) (w : jmW) : rn 254 (15, lv, st, w) = rn 254 (18, lv, .inl (220) :: st, w) := q_sipush (jd_of jb_254 dX9_moves_15) (by decide +kernel)
theorem p254_18 (lv : jmL) (st : List jmV) (w : jmW) : rn 254 (18, lv, st, w) = jq_ldi 254 19 lv st w (jg lv 2) := q_iload_n (jd_of jb_254 dX9_moves_18) rfl
theorem p254_19 (lv : jmL) (st : List jmV) (w : jmW) (x y : Int) : rn 254 (19, lv, .inl y :: .inl x :: st, w) = rn 254 (20, lv, .inl (x + y) :: st, w) := q_iadd (jd_of jb_254 dX9_moves_19)
theorem p254_20 (lv : jmL) (st : List jmV) (w : jmW) : rn 254 (20, lv, st, w) = jq_lda 254 21 lv st w (jg lv 0) := q_aload_n (jd_of jb_254 dX9_moves_20) rfl
theorem p254_21 (lv : jmL) (st : List jmV) (w : jmW) : rn 254 (21, lv, st, w) = rn 254 (24, lv, .inl (220) :: st, w) := q_sipush (jd_of jb_254 dX9_moves_21) (by decide +kernel)
theorem p254_24 (lv : jmL) (st : List jmV) (w : jmW) : rn 254 (24, lv, st, w) = jq_ldi 254 25 lv st w (jg lv 1) := q_iload_n (jd_of jb_254 dX9_moves_24) rfl
theorem p254_25 (lv : jmL) (st : List jmV) (w : jmW) (x y : Int) : rn 254 (25, lv, .inl y :: .inl x :: st, w) = rn 254 (26, lv, .inl (x + y) :: st, w) := q_iadd (jd_of jb_254 dX9_moves_25)
theorem p254_26 (lv : jmL) (st : List jmV) (w : jmW) (a : Nat) (j : Int) : rn 254 (26, lv, .inl j :: jvr a :: st, w) = jq_gr (mS w a) 0 j 254 27 lv (.inl (mI w a (jix j)) :: st) (w) := q_iald (jd_of jb_254 dX9_moves_26)
theorem p254_27 (lv : jmL) (st : List jmV) (w : jmW) (a : Nat) (j x : Int) : rn 254 (27, lv, .inl x :: .inl j :: jvr a :: st, w) = jq_gw (mS w a) 0 j 254 28 lv (st) (setI w a (jix j) x) := q_iast (jd_of jb_254 dX9_moves_27)
theorem p254_28 (lv : jmL) (st : List jmV) (w : jmW) : rn 254 (28, lv, st, w) = jq_lda 254 29 lv st w (jg lv 0) := q_aload_n (jd_of jb_254 dX9_moves_28) rfl
theorem p254_29 (lv : jmL) (st : List jmV) (w : jmW) : rn 254 (29, lv, st, w) = rn 254 (32, lv, .inl (236) :: st, w) := q_sipush (jd_of jb_254 dX9_moves_29) (by decide +kernel)
theorem p254_32 (lv : jmL) (st : List jmV) (w : jmW) : rn 254 (32, lv, st, w) = jq_ldi 254 33 lv st w (jg lv 2) := q_iload_n (jd_of jb_254 dX9_moves_32) rfl
theorem p254_33 (lv : jmL) (st : List jmV) (w : jmW) (x y : Int) : rn 254 (33, lv, .inl y :: .inl x :: st, w) = rn 254 (34, lv, .inl (x + y) :: st, w) := q_iadd (jd_of jb_254 dX9_moves_33)
theorem p254_34 (lv : jmL) (st : List jmV) (w : jmW) : rn 254 (34, lv, st, w) = jq_lda 254 35 lv st w (jg lv 0) := q_aload_n (jd_of jb_254 dX9_moves_34) rfl
theorem p254_35 (lv : jmL) (st : List jmV) (w : jmW) : rn 254 (35, lv, st, w) = rn 254 (38, lv, .inl (236) :: st, w) := q_sipush (jd_of jb_254 dX9_moves_35) (by decide +kernel)
theorem p254_38 (lv : jmL) (st : List jmV) (w : jmW) : rn 254 (38, lv, st, w) = jq_ldi 254 39 lv st w (jg lv 1) := q_iload_n (jd_of jb_254 dX9_moves_38) rfl
theorem p254_39 (lv : jmL) (st : List jmV) (w : jmW) (x y : Int) : rn 254 (39, lv, .inl y :: .inl x :: st, w) = rn 254 (40, lv, .inl (x + y) :: st, w) := q_iadd (jd_of jb_254 dX9_moves_39)
theorem p254_40 (lv : jmL) (st : List jmV) (w : jmW) (a : Nat) (j : Int) : rn 254 (40, lv, .inl j :: jvr a :: st, w) = jq_gr (mS w a) 0 j 254 41 lv (.inl (mI w a (jix j)) :: st) (w) := q_iald (jd_of jb_254 dX9_moves_40)
theorem p254_41 (lv : jmL) (st : List jmV) (w : jmW) (a : Nat) (j x : Int) : rn 254 (41, lv, .inl x :: .inl j :: jvr a :: st, w) = jq_gw (mS w a) 0 j 254 42 lv (st) (setI w a (jix j) x) := q_iast (jd_of jb_254 dX9_moves_41)
theorem p254_42 (lv : jmL) (st : List jmV) (w : jmW) : rn 254 (42, lv, st, w) = jq_lda 254 43 lv st w (jg lv 0) := q_aload_n (jd_of jb_254 dX9_moves_42) rfl
theorem p254_43 (lv : jmL) (st : List jmV) (w : jmW) : rn 254 (43, lv, st, w) = rn 254 (46, lv, .inl (252) :: st, w) := q_sipush (jd_of jb_254 dX9_moves_43) (by decide +kernel)
theorem p254_46 (lv : jmL) (st : List jmV) (w : jmW) : rn 254 (46, lv, st, w) = jq_ldi 254 47 lv st w (jg lv 2) := q_iload_n (jd_of jb_254 dX9_moves_46) rfl
theorem p254_47 (lv : jmL) (st : List jmV) (w : jmW) (x y : Int) : rn 254 (47, lv, .inl y :: .inl x :: st, w) = rn 254 (48, lv, .inl (x + y) :: st, w) := q_iadd (jd_of jb_254 dX9_moves_47)
theorem p254_48 (lv : jmL) (st : List jmV) (w : jmW) : rn 254 (48, lv, st, w) = jq_lda 254 49 lv st w (jg lv 0) := q_aload_n (jd_of jb_254 dX9_moves_48) rfl
theorem p254_49 (lv : jmL) (st : List jmV) (w : jmW) : rn 254 (49, lv, st, w) = rn 254 (52, lv, .inl (252) :: st, w) := q_sipush (jd_of jb_254 dX9_moves_49) (by decide +kernel)
theorem p254_52 (lv : jmL) (st : List jmV) (w : jmW) : rn 254 (52, lv, st, w) = jq_ldi 254 53 lv st w (jg lv 1) := q_iload_n (jd_of jb_254 dX9_moves_52) rfl
theorem p254_53 (lv : jmL) (st : List jmV) (w : jmW) (x y : Int) : rn 254 (53, lv, .inl y :: .inl x :: st, w) = rn 254 (54, lv, .inl (x + y) :: st, w) := q_iadd (jd_of jb_254 dX9_moves_53)
theorem p254_54 (lv : jmL) (st : List jmV) (w : jmW) (a : Nat) (j : Int) : rn 254 (54, lv, .inl j :: jvr a :: st, w) = jq_gr (mS w a) 0 j 254 55 lv (.inl (mI w a (jix j)) :: st) (w) := q_iald (jd_of jb_254 dX9_moves_54)
theorem p254_55 (lv : jmL) (st : List jmV) (w : jmW) (a : Nat) (j x : Int) : rn 254 (55, lv, .inl x :: .inl j :: jvr a :: st, w) = jq_gw (mS w a) 0 j 254 56 lv (st) (setI w a (jix j) x) := q_iast (jd_of jb_254 dX9_moves_55)
theorem p254_56 (lv : jmL) (st : List jmV) (w : jmW) : rn 254 (56, lv, st, w) = jq_lda 254 57 lv st w (jg lv 0) := q_aload_n (jd_of jb_254 dX9_moves_56) rfl
theorem p254_57 (lv : jmL) (st : List jmV) (w : jmW) : rn 254 (57, lv, st, w) = rn 254 (60, lv, .inl (268) :: st, w) := q_sipush (jd_of jb_254 dX9_moves_57) (by decide +kernel)
theorem p254_60 (lv : jmL) (st : List jmV) (w : jmW) : rn 254 (60, lv, st, w) = jq_ldi 254 61 lv st w (jg lv 2) := q_iload_n (jd_of jb_254 dX9_moves_60) rfl
theorem p254_61 (lv : jmL) (st : List jmV) (w : jmW) (x y : Int) : rn 254 (61, lv, .inl y :: .inl x :: st, w) = rn 254 (62, lv, .inl (x + y) :: st, w) := q_iadd (jd_of jb_254 dX9_moves_61)
theorem p254_62 (lv : jmL) (st : List jmV) (w : jmW) : rn 254 (62, lv, st, w) = jq_lda 254 63 lv st w (jg lv 0) := q_aload_n (jd_of jb_254 dX9_moves_62) rfl
theorem p254_63 (lv : jmL) (st : List jmV) (w : jmW) : rn 254 (63, lv, st, w) = rn 254 (66, lv, .inl (268) :: st, w) := q_sipush (jd_of jb_254 dX9_moves_63) (by decide +kernel)
theorem p254_66 (lv : jmL) (st : List jmV) (w : jmW) : rn 254 (66, lv, st, w) = jq_ldi 254 67 lv st w (jg lv 1) := q_iload_n (jd_of jb_254 dX9_moves_66) rfl
theorem p254_67 (lv : jmL) (st : List jmV) (w : jmW) (x y : Int) : rn 254 (67, lv, .inl y :: .inl x :: st, w) = rn 254 (68, lv, .inl (x + y) :: st, w) := q_iadd (jd_of jb_254 dX9_moves_67)
theorem p254_68 (lv : jmL) (st : List jmV) (w : jmW) (a : Nat) (j : Int) : rn 254 (68, lv, .inl j :: jvr a :: st, w) = jq_gr (mS w a) 0 j 254 69 lv (.inl (mI w a (jix j)) :: st) (w) := q_iald (jd_of jb_254 dX9_moves_68)
theorem p254_69 (lv : jmL) (st : List jmV) (w : jmW) (a : Nat) (j x : Int) : rn 254 (69, lv, .inl x :: .inl j :: jvr a :: st, w) = jq_gw (mS w a) 0 j 254 70 lv (st) (setI w a (jix j) x) := q_iast (jd_of jb_254 dX9_moves_69)
theorem p254_70 (lv : jmL) (w : jmW) : rn 254 (70, lv, [], w) = some (none, w) := q_return (jd_of jb_254 dX9_moves_70) jr_254
theorem p255_0 (lv : jmL) (st : List jmV) (w : jmW) : rn 255 (0, lv, st, w) = jq_lda 255 1 lv st w (jg lv 1) := q_aload_n (jd_of jb_255 dX9_asks_0) rfl
theorem p255_1 (lv : jmL) (st : List jmV) (w : jmW) : rn 255 (1, lv, st, w) = rn 255 (4, lv, .inl (284) :: st, w) := q_sipush (jd_of jb_255 dX9_asks_1) (by decide +kernel)
theorem p255_4 (lv : jmL) (st : List jmV) (w : jmW) : rn 255 (4, lv, st, w) = jq_ldi 255 5 lv st w (jg lv 2) := q_iload_n (jd_of jb_255 dX9_asks_4) rfl
theorem p255_5 (lv : jmL) (st : List jmV) (w : jmW) (x y : Int) : rn 255 (5, lv, .inl y :: .inl x :: st, w) = rn 255 (6, lv, .inl (x + y) :: st, w) := q_iadd (jd_of jb_255 dX9_asks_5)
theorem p255_6 (lv : jmL) (st : List jmV) (w : jmW) (a : Nat) (j : Int) : rn 255 (6, lv, .inl j :: jvr a :: st, w) = jq_gr (mS w a) 0 j 255 7 lv (.inl (mI w a (jix j)) :: st) (w) := q_iald (jd_of jb_255 dX9_asks_6)
theorem p255_7 (lv : jmL) (st : List jmV) (w : jmW) (x : Int) : rn 255 (7, lv, .inl x :: st, w) = if jw x = 0 then rn 255 (20, lv, st, w) else rn 255 (10, lv, st, w) := q_if_eq (jd_of jb_255 dX9_asks_7) (by decide)
theorem p255_10 (lv : jmL) (st : List jmV) (w : jmW) : rn 255 (10, lv, st, w) = jq_lda 255 11 lv st w (jg lv 1) := q_aload_n (jd_of jb_255 dX9_asks_10) rfl
theorem p255_11 (lv : jmL) (st : List jmV) (w : jmW) : rn 255 (11, lv, st, w) = rn 255 (14, lv, .inl (289) :: st, w) := q_sipush (jd_of jb_255 dX9_asks_11) (by decide +kernel)
theorem p255_14 (lv : jmL) (st : List jmV) (w : jmW) (a : Nat) (j : Int) : rn 255 (14, lv, .inl j :: jvr a :: st, w) = jq_gr (mS w a) 0 j 255 15 lv (.inl (mI w a (jix j)) :: st) (w) := q_iald (jd_of jb_255 dX9_asks_14)
theorem p255_15 (lv : jmL) (st : List jmV) (w : jmW) : rn 255 (15, lv, st, w) = rn 255 (17, lv, .inl (16) :: st, w) := q_bipush (jd_of jb_255 dX9_asks_15) (by decide +kernel)
theorem p255_17 (lv : jmL) (st : List jmV) (w : jmW) (x y : Int) : rn 255 (17, lv, .inl y :: .inl x :: st, w) = if jw x < jw y then rn 255 (21, lv, st, w) else rn 255 (20, lv, st, w) := q_icmp_lt (jd_of jb_255 dX9_asks_17) (by decide)
theorem p255_20 (lv : jmL) (w : jmW) : rn 255 (20, lv, [], w) = some (none, w) := q_return (jd_of jb_255 dX9_asks_20) jr_255
theorem p255_21 (lv : jmL) (st : List jmV) (w : jmW) : rn 255 (21, lv, st, w) = rn 255 (22, lv, .inl (0) :: st, w) := q_iconst (jd_of jb_255 dX9_asks_21)
theorem p255_22 (lv : jmL) (st : List jmV) (w : jmW) (x : Int) : rn 255 (22, lv, .inl x :: st, w) = rn 255 (23, js lv 3 (.inl x), st, w) := q_istore_n (jd_of jb_255 dX9_asks_22) rfl (by rw [jm_255]; decide)
theorem p255_23 (lv : jmL) (st : List jmV) (w : jmW) : rn 255 (23, lv, st, w) = jq_ldi 255 24 lv st w (jg lv 3) := q_iload_n (jd_of jb_255 dX9_asks_23) rfl
theorem p255_24 (lv : jmL) (st : List jmV) (w : jmW) : rn 255 (24, lv, st, w) = jq_lda 255 25 lv st w (jg lv 1) := q_aload_n (jd_of jb_255 dX9_asks_24) rfl
theorem p255_25 (lv : jmL) (st : List jmV) (w : jmW) : rn 255 (25, lv, st, w) = rn 255 (28, lv, .inl (289) :: st, w) := q_sipush (jd_of jb_255 dX9_asks_25) (by decide +kernel)
theorem p255_28 (lv : jmL) (st : List jmV) (w : jmW) (a : Nat) (j : Int) : rn 255 (28, lv, .inl j :: jvr a :: st, w) = jq_gr (mS w a) 0 j 255 29 lv (.inl (mI w a (jix j)) :: st) (w) := q_iald (jd_of jb_255 dX9_asks_28)
theorem p255_29 (lv : jmL) (st : List jmV) (w : jmW) (x y : Int) : rn 255 (29, lv, .inl y :: .inl x :: st, w) = if jw x < jw y then rn 255 (32, lv, st, w) else rn 255 (62, lv, st, w) := q_icmp_ge (jd_of jb_255 dX9_asks_29) (by decide)
theorem p255_32 (lv : jmL) (st : List jmV) (w : jmW) : rn 255 (32, lv, st, w) = jq_lda 255 33 lv st w (jg lv 0) := q_aload_n (jd_of jb_255 dX9_asks_32) rfl
theorem p255_33 (lv : jmL) (st : List jmV) (w : jmW) (a : Nat) : rn 255 (33, lv, jvr a :: st, w) = jq_gs (mS w a) (1, 9, 0) 255 36 lv (.inr (.inr (mR w a 3)) :: st) (w) := q_getf (v := fun w a => .inr (.inr (mR w a 3))) (jd_of jb_255 dX9_asks_33) jo_255 jk_9_389 (fun _ _ => rfl)
theorem p255_36 (lv : jmL) (st : List jmV) (w : jmW) : rn 255 (36, lv, st, w) = jq_lda 255 37 lv st w (jg lv 1) := q_aload_n (jd_of jb_255 dX9_asks_36) rfl
theorem p255_37 (lv : jmL) (st : List jmV) (w : jmW) : rn 255 (37, lv, st, w) = jq_ldi 255 38 lv st w (jg lv 3) := q_iload_n (jd_of jb_255 dX9_asks_37) rfl
theorem p255_38 (lv : jmL) (st : List jmV) (w : jmW) (x1 : Option Nat) (x2 : Int) : rn 255 (38, lv, .inl x2 :: .inr (.inr x1) :: st, w) = jq_b (decide (jwd st ≤ 8)) (jq_c 255 41 lv st (rn 221 (0, [(0, .inr (.inr x1)), (1, .inl x2)], [], w))) := q_calls (as := [.inr (.inr x1), .inl x2]) (rest := st) (jd_of jb_255 dX9_asks_38) jo_255 jk_9_409 rfl rfl rfl jf_255_221 (Nat.le_of_ble_eq_true rfl)
theorem p255_41 (lv : jmL) (st : List jmV) (w : jmW) : rn 255 (41, lv, st, w) = jq_lda 255 42 lv st w (jg lv 0) := q_aload_n (jd_of jb_255 dX9_asks_41) rfl
theorem p255_42 (lv : jmL) (st : List jmV) (w : jmW) (a : Nat) : rn 255 (42, lv, jvr a :: st, w) = jq_gs (mS w a) (1, 9, 0) 255 45 lv (.inr (.inr (mR w a 3)) :: st) (w) := q_getf (v := fun w a => .inr (.inr (mR w a 3))) (jd_of jb_255 dX9_asks_42) jo_255 jk_9_389 (fun _ _ => rfl)
theorem p255_45 (lv : jmL) (st : List jmV) (w : jmW) (a : Nat) : rn 255 (45, lv, jvr a :: st, w) = jq_gs (mS w a) (1, 8, 0) 255 48 lv (.inr (.inr (mR w a 18)) :: st) (w) := q_getf (v := fun w a => .inr (.inr (mR w a 18))) (jd_of jb_255 dX9_asks_45) jo_255 jk_9_335 (fun _ _ => rfl)
theorem p255_48 (lv : jmL) (st : List jmV) (w : jmW) : rn 255 (48, lv, st, w) = jq_ldi 255 49 lv st w (jg lv 2) := q_iload_n (jd_of jb_255 dX9_asks_48) rfl
theorem p255_49 (lv : jmL) (st : List jmV) (w : jmW) (a : Nat) (j : Int) : rn 255 (49, lv, .inl j :: jvr a :: st, w) = jq_gr (mS w a) 0 j 255 50 lv (.inl (mI w a (jix j)) :: st) (w) := q_iald (jd_of jb_255 dX9_asks_49)
theorem p255_50 (lv : jmL) (st : List jmV) (w : jmW) (b : Nat) (x1 : Int) (x2 : Int) : rn 255 (50, lv, .inl x2 :: .inl x1 :: jvr b :: st, w) = jq_s (mS w b) (1, 8, 0) (jq_b (decide (jwd st ≤ 8)) (jq_c 255 53 lv st (rn 256 (0, [(0, jvr b), (1, .inl x1), (2, .inl x2)], [], w)))) := q_callv (as := [.inl x1, .inl x2]) (rest := st) (jd_of jb_255 dX9_asks_50) jo_255 jk_9_468 rfl rfl rfl jo_256 jf_255_256 (Nat.le_of_ble_eq_true rfl)
theorem p255_53 (lv : jmL) (st : List jmV) (w : jmW) (x : Int) : rn 255 (53, lv, .inl x :: st, w) = if jw x = 0 then rn 255 (56, lv, st, w) else rn 255 (62, lv, st, w) := q_if_ne (jd_of jb_255 dX9_asks_53) (by decide)
theorem p255_56 (lv : jmL) (st : List jmV) (w : jmW) : rn 255 (56, lv, st, w) = jq_inc 255 59 lv 3 (1) st w (jg lv 3) := q_iinc (jd_of jb_255 dX9_asks_56) (by rw [jm_255]; decide)
theorem p255_59 (lv : jmL) (st : List jmV) (w : jmW) : rn 255 (59, lv, st, w) = rn 255 (23, lv, st, w) := q_goto (jd_of jb_255 dX9_asks_59) (by decide)
theorem p255_62 (lv : jmL) (st : List jmV) (w : jmW) : rn 255 (62, lv, st, w) = jq_ldi 255 63 lv st w (jg lv 3) := q_iload_n (jd_of jb_255 dX9_asks_62) rfl
theorem p255_63 (lv : jmL) (st : List jmV) (w : jmW) : rn 255 (63, lv, st, w) = jq_lda 255 64 lv st w (jg lv 1) := q_aload_n (jd_of jb_255 dX9_asks_63) rfl
theorem p255_64 (lv : jmL) (st : List jmV) (w : jmW) : rn 255 (64, lv, st, w) = rn 255 (67, lv, .inl (289) :: st, w) := q_sipush (jd_of jb_255 dX9_asks_64) (by decide +kernel)
theorem p255_67 (lv : jmL) (st : List jmV) (w : jmW) (a : Nat) (j : Int) : rn 255 (67, lv, .inl j :: jvr a :: st, w) = jq_gr (mS w a) 0 j 255 68 lv (.inl (mI w a (jix j)) :: st) (w) := q_iald (jd_of jb_255 dX9_asks_67)
theorem p255_68 (lv : jmL) (st : List jmV) (w : jmW) (x y : Int) : rn 255 (68, lv, .inl y :: .inl x :: st, w) = if jw x = jw y then rn 255 (90, lv, st, w) else rn 255 (71, lv, st, w) := q_icmp_eq (jd_of jb_255 dX9_asks_68) (by decide)
theorem p255_71 (lv : jmL) (st : List jmV) (w : jmW) : rn 255 (71, lv, st, w) = jq_lda 255 72 lv st w (jg lv 1) := q_aload_n (jd_of jb_255 dX9_asks_71) rfl
theorem p255_72 (lv : jmL) (st : List jmV) (w : jmW) (x1 : Option Nat) : rn 255 (72, lv, .inr (.inr x1) :: st, w) = jq_b (decide (jwd st ≤ 8)) (jq_c 255 75 lv st (rn 246 (0, [(0, .inr (.inr x1))], [], w))) := q_calls (as := [.inr (.inr x1)]) (rest := st) (jd_of jb_255 dX9_asks_72) jo_255 jk_9_439 rfl rfl rfl jf_255_246 (Nat.le_of_ble_eq_true rfl)
theorem p255_75 (lv : jmL) (st : List jmV) (w : jmW) : rn 255 (75, lv, st, w) = rn 255 (77, lv, .inl (100) :: st, w) := q_bipush (jd_of jb_255 dX9_asks_75) (by decide +kernel)
theorem p255_77 (lv : jmL) (st : List jmV) (w : jmW) (x y : Int) : rn 255 (77, lv, .inl y :: .inl x :: st, w) = if jw y = 0 then none else rn 255 (78, lv, .inl ((jw x).tmod (jw y)) :: st, w) := q_irem (jd_of jb_255 dX9_asks_77)
theorem p255_78 (lv : jmL) (st : List jmV) (w : jmW) : rn 255 (78, lv, st, w) = jq_lda 255 79 lv st w (jg lv 0) := q_aload_n (jd_of jb_255 dX9_asks_78) rfl
theorem p255_79 (lv : jmL) (st : List jmV) (w : jmW) (a : Nat) : rn 255 (79, lv, jvr a :: st, w) = jq_gs (mS w a) (1, 9, 0) 255 82 lv (.inr (.inr (mR w a 3)) :: st) (w) := q_getf (v := fun w a => .inr (.inr (mR w a 3))) (jd_of jb_255 dX9_asks_79) jo_255 jk_9_389 (fun _ _ => rfl)
theorem p255_82 (lv : jmL) (st : List jmV) (w : jmW) (a : Nat) : rn 255 (82, lv, jvr a :: st, w) = jq_gs (mS w a) (1, 8, 0) 255 85 lv (.inr (.inr (mR w a 23)) :: st) (w) := q_getf (v := fun w a => .inr (.inr (mR w a 23))) (jd_of jb_255 dX9_asks_82) jo_255 jk_9_349 (fun _ _ => rfl)
theorem p255_85 (lv : jmL) (st : List jmV) (w : jmW) : rn 255 (85, lv, st, w) = jq_ldi 255 86 lv st w (jg lv 2) := q_iload_n (jd_of jb_255 dX9_asks_85) rfl
theorem p255_86 (lv : jmL) (st : List jmV) (w : jmW) (a : Nat) (j : Int) : rn 255 (86, lv, .inl j :: jvr a :: st, w) = jq_gr (mS w a) 0 j 255 87 lv (.inl (mI w a (jix j)) :: st) (w) := q_iald (jd_of jb_255 dX9_asks_86)
theorem p255_87 (lv : jmL) (st : List jmV) (w : jmW) (x y : Int) : rn 255 (87, lv, .inl y :: .inl x :: st, w) = if jw x < jw y then rn 255 (91, lv, st, w) else rn 255 (90, lv, st, w) := q_icmp_lt (jd_of jb_255 dX9_asks_87) (by decide)
theorem p255_90 (lv : jmL) (w : jmW) : rn 255 (90, lv, [], w) = some (none, w) := q_return (jd_of jb_255 dX9_asks_90) jr_255
theorem p255_91 (lv : jmL) (st : List jmV) (w : jmW) : rn 255 (91, lv, st, w) = jq_lda 255 92 lv st w (jg lv 1) := q_aload_n (jd_of jb_255 dX9_asks_91) rfl
theorem p255_92 (lv : jmL) (st : List jmV) (w : jmW) : rn 255 (92, lv, st, w) = rn 255 (95, lv, .inl (289) :: st, w) := q_sipush (jd_of jb_255 dX9_asks_92) (by decide +kernel)
theorem p255_95 (lv : jmL) (st : List jmV) (w : jmW) (a : Nat) (j : Int) : rn 255 (95, lv, .inl j :: jvr a :: st, w) = jq_gr (mS w a) 0 j 255 96 lv (.inl (mI w a (jix j)) :: st) (w) := q_iald (jd_of jb_255 dX9_asks_95)
theorem p255_96 (lv : jmL) (st : List jmV) (w : jmW) : rn 255 (96, lv, st, w) = rn 255 (97, lv, .inl (1) :: st, w) := q_iconst (jd_of jb_255 dX9_asks_96)
theorem p255_97 (lv : jmL) (st : List jmV) (w : jmW) (x y : Int) : rn 255 (97, lv, .inl y :: .inl x :: st, w) = rn 255 (98, lv, .inl (x - y) :: st, w) := q_isub (jd_of jb_255 dX9_asks_97)
theorem p255_98 (lv : jmL) (st : List jmV) (w : jmW) (x : Int) : rn 255 (98, lv, .inl x :: st, w) = rn 255 (100, js lv 4 (.inl x), st, w) := q_istore (jd_of jb_255 dX9_asks_98) (by rw [jm_255]; decide)
theorem p255_100 (lv : jmL) (st : List jmV) (w : jmW) : rn 255 (100, lv, st, w) = jq_lda 255 101 lv st w (jg lv 0) := q_aload_n (jd_of jb_255 dX9_asks_100) rfl
theorem p255_101 (lv : jmL) (st : List jmV) (w : jmW) (a : Nat) : rn 255 (101, lv, jvr a :: st, w) = jq_gs (mS w a) (1, 9, 0) 255 104 lv (.inr (.inr (mR w a 3)) :: st) (w) := q_getf (v := fun w a => .inr (.inr (mR w a 3))) (jd_of jb_255 dX9_asks_101) jo_255 jk_9_389 (fun _ _ => rfl)
theorem p255_104 (lv : jmL) (st : List jmV) (w : jmW) (a : Nat) : rn 255 (104, lv, jvr a :: st, w) = jq_gs (mS w a) (1, 8, 0) 255 107 lv (.inl (mI w a 16) :: st) (w) := q_getf (v := fun w a => .inl (mI w a 16)) (jd_of jb_255 dX9_asks_104) jo_255 jk_9_266 (fun _ _ => rfl)
theorem p255_107 (lv : jmL) (st : List jmV) (w : jmW) (x : Int) : rn 255 (107, lv, .inl x :: st, w) = if jw x = 0 then rn 255 (120, lv, st, w) else rn 255 (110, lv, st, w) := q_if_eq (jd_of jb_255 dX9_asks_107) (by decide)
theorem p255_110 (lv : jmL) (st : List jmV) (w : jmW) : rn 255 (110, lv, st, w) = jq_ldi 255 111 lv st w (jg lv 3) := q_iload_n (jd_of jb_255 dX9_asks_110) rfl
theorem p255_111 (lv : jmL) (st : List jmV) (w : jmW) : rn 255 (111, lv, st, w) = jq_ldi 255 113 lv st w (jg lv 4) := q_iload (jd_of jb_255 dX9_asks_111)
theorem p255_113 (lv : jmL) (st : List jmV) (w : jmW) (x y : Int) : rn 255 (113, lv, .inl y :: .inl x :: st, w) = if jw x < jw y then rn 255 (116, lv, st, w) else rn 255 (120, lv, st, w) := q_icmp_ge (jd_of jb_255 dX9_asks_113) (by decide)
theorem p255_116 (lv : jmL) (st : List jmV) (w : jmW) : rn 255 (116, lv, st, w) = rn 255 (117, lv, .inl (1) :: st, w) := q_iconst (jd_of jb_255 dX9_asks_116)
theorem p255_117 (lv : jmL) (st : List jmV) (w : jmW) : rn 255 (117, lv, st, w) = rn 255 (121, lv, st, w) := q_goto (jd_of jb_255 dX9_asks_117) (by decide)
theorem p255_120 (lv : jmL) (st : List jmV) (w : jmW) : rn 255 (120, lv, st, w) = rn 255 (121, lv, .inl (0) :: st, w) := q_iconst (jd_of jb_255 dX9_asks_120)
theorem p255_121 (lv : jmL) (st : List jmV) (w : jmW) (x : Int) : rn 255 (121, lv, .inl x :: st, w) = rn 255 (123, js lv 5 (.inl x), st, w) := q_istore (jd_of jb_255 dX9_asks_121) (by rw [jm_255]; decide)
theorem p255_123 (lv : jmL) (st : List jmV) (w : jmW) : rn 255 (123, lv, st, w) = jq_ldi 255 125 lv st w (jg lv 5) := q_iload (jd_of jb_255 dX9_asks_123)
theorem p255_125 (lv : jmL) (st : List jmV) (w : jmW) (x : Int) : rn 255 (125, lv, .inl x :: st, w) = if jw x = 0 then rn 255 (134, lv, st, w) else rn 255 (128, lv, st, w) := q_if_eq (jd_of jb_255 dX9_asks_125) (by decide)
theorem p255_128 (lv : jmL) (st : List jmV) (w : jmW) : rn 255 (128, lv, st, w) = jq_ldi 255 129 lv st w (jg lv 3) := q_iload_n (jd_of jb_255 dX9_asks_128) rfl
theorem p255_129 (lv : jmL) (st : List jmV) (w : jmW) : rn 255 (129, lv, st, w) = rn 255 (130, lv, .inl (1) :: st, w) := q_iconst (jd_of jb_255 dX9_asks_129)
theorem p255_130 (lv : jmL) (st : List jmV) (w : jmW) (x y : Int) : rn 255 (130, lv, .inl y :: .inl x :: st, w) = rn 255 (131, lv, .inl (x + y) :: st, w) := q_iadd (jd_of jb_255 dX9_asks_130)
theorem p255_131 (lv : jmL) (st : List jmV) (w : jmW) : rn 255 (131, lv, st, w) = rn 255 (138, lv, st, w) := q_goto (jd_of jb_255 dX9_asks_131) (by decide)
theorem p255_134 (lv : jmL) (st : List jmV) (w : jmW) : rn 255 (134, lv, st, w) = jq_ldi 255 136 lv st w (jg lv 4) := q_iload (jd_of jb_255 dX9_asks_134)
theorem p255_136 (lv : jmL) (st : List jmV) (w : jmW) : rn 255 (136, lv, st, w) = rn 255 (137, lv, .inl (1) :: st, w) := q_iconst (jd_of jb_255 dX9_asks_136)
theorem p255_137 (lv : jmL) (st : List jmV) (w : jmW) (x y : Int) : rn 255 (137, lv, .inl y :: .inl x :: st, w) = rn 255 (138, lv, .inl (x + y) :: st, w) := q_iadd (jd_of jb_255 dX9_asks_137)
theorem p255_138 (lv : jmL) (st : List jmV) (w : jmW) (x : Int) : rn 255 (138, lv, .inl x :: st, w) = rn 255 (140, js lv 6 (.inl x), st, w) := q_istore (jd_of jb_255 dX9_asks_138) (by rw [jm_255]; decide)
theorem p255_140 (lv : jmL) (st : List jmV) (w : jmW) : rn 255 (140, lv, st, w) = jq_ldi 255 142 lv st w (jg lv 5) := q_iload (jd_of jb_255 dX9_asks_140)
theorem p255_142 (lv : jmL) (st : List jmV) (w : jmW) (x : Int) : rn 255 (142, lv, .inl x :: st, w) = if jw x = 0 then rn 255 (156, lv, st, w) else rn 255 (145, lv, st, w) := q_if_eq (jd_of jb_255 dX9_asks_142) (by decide)
theorem p255_145 (lv : jmL) (st : List jmV) (w : jmW) : rn 255 (145, lv, st, w) = jq_lda 255 146 lv st w (jg lv 1) := q_aload_n (jd_of jb_255 dX9_asks_145) rfl
theorem p255_146 (lv : jmL) (st : List jmV) (w : jmW) : rn 255 (146, lv, st, w) = rn 255 (149, lv, .inl (220) :: st, w) := q_sipush (jd_of jb_255 dX9_asks_146) (by decide +kernel)
theorem p255_149 (lv : jmL) (st : List jmV) (w : jmW) : rn 255 (149, lv, st, w) = jq_ldi 255 151 lv st w (jg lv 6) := q_iload (jd_of jb_255 dX9_asks_149)
theorem p255_151 (lv : jmL) (st : List jmV) (w : jmW) (x y : Int) : rn 255 (151, lv, .inl y :: .inl x :: st, w) = rn 255 (152, lv, .inl (x + y) :: st, w) := q_iadd (jd_of jb_255 dX9_asks_151)
theorem p255_152 (lv : jmL) (st : List jmV) (w : jmW) (a : Nat) (j : Int) : rn 255 (152, lv, .inl j :: jvr a :: st, w) = jq_gr (mS w a) 0 j 255 153 lv (.inl (mI w a (jix j)) :: st) (w) := q_iald (jd_of jb_255 dX9_asks_152)
theorem p255_153 (lv : jmL) (st : List jmV) (w : jmW) : rn 255 (153, lv, st, w) = rn 255 (181, lv, st, w) := q_goto (jd_of jb_255 dX9_asks_153) (by decide)
theorem p255_156 (lv : jmL) (st : List jmV) (w : jmW) : rn 255 (156, lv, st, w) = jq_lda 255 157 lv st w (jg lv 1) := q_aload_n (jd_of jb_255 dX9_asks_156) rfl
theorem p255_157 (lv : jmL) (st : List jmV) (w : jmW) : rn 255 (157, lv, st, w) = rn 255 (160, lv, .inl (220) :: st, w) := q_sipush (jd_of jb_255 dX9_asks_157) (by decide +kernel)
theorem p255_160 (lv : jmL) (st : List jmV) (w : jmW) : rn 255 (160, lv, st, w) = jq_ldi 255 162 lv st w (jg lv 4) := q_iload (jd_of jb_255 dX9_asks_160)
theorem p255_162 (lv : jmL) (st : List jmV) (w : jmW) (x y : Int) : rn 255 (162, lv, .inl y :: .inl x :: st, w) = rn 255 (163, lv, .inl (x + y) :: st, w) := q_iadd (jd_of jb_255 dX9_asks_162)
theorem p255_163 (lv : jmL) (st : List jmV) (w : jmW) (a : Nat) (j : Int) : rn 255 (163, lv, .inl j :: jvr a :: st, w) = jq_gr (mS w a) 0 j 255 164 lv (.inl (mI w a (jix j)) :: st) (w) := q_iald (jd_of jb_255 dX9_asks_163)
theorem p255_164 (lv : jmL) (st : List jmV) (w : jmW) (x : Int) : rn 255 (164, lv, .inl x :: st, w) = if 0 < jw x then rn 255 (167, lv, st, w) else rn 255 (180, lv, st, w) := q_if_le (jd_of jb_255 dX9_asks_164) (by decide)
theorem p255_167 (lv : jmL) (st : List jmV) (w : jmW) : rn 255 (167, lv, st, w) = jq_lda 255 168 lv st w (jg lv 1) := q_aload_n (jd_of jb_255 dX9_asks_167) rfl
theorem p255_168 (lv : jmL) (st : List jmV) (w : jmW) : rn 255 (168, lv, st, w) = rn 255 (171, lv, .inl (220) :: st, w) := q_sipush (jd_of jb_255 dX9_asks_168) (by decide +kernel)
theorem p255_171 (lv : jmL) (st : List jmV) (w : jmW) : rn 255 (171, lv, st, w) = jq_ldi 255 173 lv st w (jg lv 4) := q_iload (jd_of jb_255 dX9_asks_171)
theorem p255_173 (lv : jmL) (st : List jmV) (w : jmW) (x y : Int) : rn 255 (173, lv, .inl y :: .inl x :: st, w) = rn 255 (174, lv, .inl (x + y) :: st, w) := q_iadd (jd_of jb_255 dX9_asks_173)
theorem p255_174 (lv : jmL) (st : List jmV) (w : jmW) (a : Nat) (j : Int) : rn 255 (174, lv, .inl j :: jvr a :: st, w) = jq_gr (mS w a) 0 j 255 175 lv (.inl (mI w a (jix j)) :: st) (w) := q_iald (jd_of jb_255 dX9_asks_174)
theorem p255_175 (lv : jmL) (st : List jmV) (w : jmW) : rn 255 (175, lv, st, w) = rn 255 (176, lv, .inl (1) :: st, w) := q_iconst (jd_of jb_255 dX9_asks_175)
theorem p255_176 (lv : jmL) (st : List jmV) (w : jmW) (x y : Int) : rn 255 (176, lv, .inl y :: .inl x :: st, w) = rn 255 (177, lv, .inl (x - y) :: st, w) := q_isub (jd_of jb_255 dX9_asks_176)
theorem p255_177 (lv : jmL) (st : List jmV) (w : jmW) : rn 255 (177, lv, st, w) = rn 255 (181, lv, st, w) := q_goto (jd_of jb_255 dX9_asks_177) (by decide)
theorem p255_180 (lv : jmL) (st : List jmV) (w : jmW) : rn 255 (180, lv, st, w) = rn 255 (181, lv, .inl (0) :: st, w) := q_iconst (jd_of jb_255 dX9_asks_180)
theorem p255_181 (lv : jmL) (st : List jmV) (w : jmW) (x : Int) : rn 255 (181, lv, .inl x :: st, w) = rn 255 (183, js lv 7 (.inl x), st, w) := q_istore (jd_of jb_255 dX9_asks_181) (by rw [jm_255]; decide)
theorem p255_183 (lv : jmL) (st : List jmV) (w : jmW) : rn 255 (183, lv, st, w) = jq_lda 255 184 lv st w (jg lv 1) := q_aload_n (jd_of jb_255 dX9_asks_183) rfl
theorem p255_184 (lv : jmL) (st : List jmV) (w : jmW) : rn 255 (184, lv, st, w) = rn 255 (187, lv, .inl (289) :: st, w) := q_sipush (jd_of jb_255 dX9_asks_184) (by decide +kernel)
theorem p255_187 (lv : jmL) (st : List jmV) (w : jmW) (a : Nat) (j : Int) : rn 255 (187, lv, .inl j :: jvr a :: st, w) = jq_gr (mS w a) 0 j 255 188 lv (.inl (mI w a (jix j)) :: st) (w) := q_iald (jd_of jb_255 dX9_asks_187)
theorem p255_188 (lv : jmL) (st : List jmV) (w : jmW) (x : Int) : rn 255 (188, lv, .inl x :: st, w) = rn 255 (190, js lv 8 (.inl x), st, w) := q_istore (jd_of jb_255 dX9_asks_188) (by rw [jm_255]; decide)
theorem p255_190 (lv : jmL) (st : List jmV) (w : jmW) : rn 255 (190, lv, st, w) = jq_ldi 255 192 lv st w (jg lv 8) := q_iload (jd_of jb_255 dX9_asks_190)
theorem p255_192 (lv : jmL) (st : List jmV) (w : jmW) : rn 255 (192, lv, st, w) = jq_ldi 255 194 lv st w (jg lv 6) := q_iload (jd_of jb_255 dX9_asks_192)
theorem p255_194 (lv : jmL) (st : List jmV) (w : jmW) (x y : Int) : rn 255 (194, lv, .inl y :: .inl x :: st, w) = if jw y < jw x then rn 255 (197, lv, st, w) else rn 255 (213, lv, st, w) := q_icmp_le (jd_of jb_255 dX9_asks_194) (by decide)
theorem p255_197 (lv : jmL) (st : List jmV) (w : jmW) : rn 255 (197, lv, st, w) = jq_lda 255 198 lv st w (jg lv 1) := q_aload_n (jd_of jb_255 dX9_asks_197) rfl
theorem p255_198 (lv : jmL) (st : List jmV) (w : jmW) : rn 255 (198, lv, st, w) = jq_ldi 255 200 lv st w (jg lv 8) := q_iload (jd_of jb_255 dX9_asks_198)
theorem p255_200 (lv : jmL) (st : List jmV) (w : jmW) : rn 255 (200, lv, st, w) = rn 255 (201, lv, .inl (1) :: st, w) := q_iconst (jd_of jb_255 dX9_asks_200)
theorem p255_201 (lv : jmL) (st : List jmV) (w : jmW) (x y : Int) : rn 255 (201, lv, .inl y :: .inl x :: st, w) = rn 255 (202, lv, .inl (x - y) :: st, w) := q_isub (jd_of jb_255 dX9_asks_201)
theorem p255_202 (lv : jmL) (st : List jmV) (w : jmW) : rn 255 (202, lv, st, w) = jq_ldi 255 204 lv st w (jg lv 8) := q_iload (jd_of jb_255 dX9_asks_202)
theorem p255_204 (lv : jmL) (st : List jmV) (w : jmW) (x1 : Option Nat) (x2 : Int) (x3 : Int) : rn 255 (204, lv, .inl x3 :: .inl x2 :: .inr (.inr x1) :: st, w) = jq_b (decide (jwd st ≤ 8)) (jq_c 255 207 lv st (rn 254 (0, [(0, .inr (.inr x1)), (1, .inl x2), (2, .inl x3)], [], w))) := q_calls (as := [.inr (.inr x1), .inl x2, .inl x3]) (rest := st) (jd_of jb_255 dX9_asks_204) jo_255 jk_9_454 rfl rfl rfl jf_255_254 (Nat.le_of_ble_eq_true rfl)
theorem p255_207 (lv : jmL) (st : List jmV) (w : jmW) : rn 255 (207, lv, st, w) = jq_inc 255 210 lv 8 (-1) st w (jg lv 8) := q_iinc (jd_of jb_255 dX9_asks_207) (by rw [jm_255]; decide)
theorem p255_210 (lv : jmL) (st : List jmV) (w : jmW) : rn 255 (210, lv, st, w) = rn 255 (190, lv, st, w) := q_goto (jd_of jb_255 dX9_asks_210) (by decide)
theorem p255_213 (lv : jmL) (st : List jmV) (w : jmW) : rn 255 (213, lv, st, w) = jq_lda 255 214 lv st w (jg lv 1) := q_aload_n (jd_of jb_255 dX9_asks_213) rfl
theorem p255_214 (lv : jmL) (st : List jmV) (w : jmW) : rn 255 (214, lv, st, w) = rn 255 (217, lv, .inl (204) :: st, w) := q_sipush (jd_of jb_255 dX9_asks_214) (by decide +kernel)
theorem p255_217 (lv : jmL) (st : List jmV) (w : jmW) : rn 255 (217, lv, st, w) = jq_ldi 255 219 lv st w (jg lv 6) := q_iload (jd_of jb_255 dX9_asks_217)
theorem p255_219 (lv : jmL) (st : List jmV) (w : jmW) (x y : Int) : rn 255 (219, lv, .inl y :: .inl x :: st, w) = rn 255 (220, lv, .inl (x + y) :: st, w) := q_iadd (jd_of jb_255 dX9_asks_219)
theorem p255_220 (lv : jmL) (st : List jmV) (w : jmW) : rn 255 (220, lv, st, w) = jq_lda 255 221 lv st w (jg lv 1) := q_aload_n (jd_of jb_255 dX9_asks_220) rfl
theorem p255_221 (lv : jmL) (st : List jmV) (w : jmW) : rn 255 (221, lv, st, w) = rn 255 (224, lv, .inl (290) :: st, w) := q_sipush (jd_of jb_255 dX9_asks_221) (by decide +kernel)
theorem p255_224 (lv : jmL) (st : List jmV) (w : jmW) (a : Nat) (j : Int) : rn 255 (224, lv, .inl j :: jvr a :: st, w) = jq_gr (mS w a) 0 j 255 225 lv (.inl (mI w a (jix j)) :: st) (w) := q_iald (jd_of jb_255 dX9_asks_224)
theorem p255_225 (lv : jmL) (st : List jmV) (w : jmW) (a : Nat) (j x : Int) : rn 255 (225, lv, .inl x :: .inl j :: jvr a :: st, w) = jq_gw (mS w a) 0 j 255 226 lv (st) (setI w a (jix j) x) := q_iast (jd_of jb_255 dX9_asks_225)
theorem p255_226 (lv : jmL) (st : List jmV) (w : jmW) : rn 255 (226, lv, st, w) = jq_lda 255 227 lv st w (jg lv 1) := q_aload_n (jd_of jb_255 dX9_asks_226) rfl
theorem p255_227 (lv : jmL) (st : List jmV) (w : jmW) : rn 255 (227, lv, st, w) = rn 255 (230, lv, .inl (220) :: st, w) := q_sipush (jd_of jb_255 dX9_asks_227) (by decide +kernel)
theorem p255_230 (lv : jmL) (st : List jmV) (w : jmW) : rn 255 (230, lv, st, w) = jq_ldi 255 232 lv st w (jg lv 6) := q_iload (jd_of jb_255 dX9_asks_230)
theorem p255_232 (lv : jmL) (st : List jmV) (w : jmW) (x y : Int) : rn 255 (232, lv, .inl y :: .inl x :: st, w) = rn 255 (233, lv, .inl (x + y) :: st, w) := q_iadd (jd_of jb_255 dX9_asks_232)
theorem p255_233 (lv : jmL) (st : List jmV) (w : jmW) : rn 255 (233, lv, st, w) = jq_ldi 255 235 lv st w (jg lv 7) := q_iload (jd_of jb_255 dX9_asks_233)
theorem p255_235 (lv : jmL) (st : List jmV) (w : jmW) (a : Nat) (j x : Int) : rn 255 (235, lv, .inl x :: .inl j :: jvr a :: st, w) = jq_gw (mS w a) 0 j 255 236 lv (st) (setI w a (jix j) x) := q_iast (jd_of jb_255 dX9_asks_235)
theorem p255_236 (lv : jmL) (st : List jmV) (w : jmW) : rn 255 (236, lv, st, w) = jq_lda 255 237 lv st w (jg lv 1) := q_aload_n (jd_of jb_255 dX9_asks_236) rfl
theorem p255_237 (lv : jmL) (st : List jmV) (w : jmW) : rn 255 (237, lv, st, w) = rn 255 (240, lv, .inl (236) :: st, w) := q_sipush (jd_of jb_255 dX9_asks_237) (by decide +kernel)
theorem p255_240 (lv : jmL) (st : List jmV) (w : jmW) : rn 255 (240, lv, st, w) = jq_ldi 255 242 lv st w (jg lv 6) := q_iload (jd_of jb_255 dX9_asks_240)
theorem p255_242 (lv : jmL) (st : List jmV) (w : jmW) (x y : Int) : rn 255 (242, lv, .inl y :: .inl x :: st, w) = rn 255 (243, lv, .inl (x + y) :: st, w) := q_iadd (jd_of jb_255 dX9_asks_242)
theorem p255_243 (lv : jmL) (st : List jmV) (w : jmW) : rn 255 (243, lv, st, w) = jq_lda 255 244 lv st w (jg lv 0) := q_aload_n (jd_of jb_255 dX9_asks_243) rfl
theorem p255_244 (lv : jmL) (st : List jmV) (w : jmW) (a : Nat) : rn 255 (244, lv, jvr a :: st, w) = jq_gs (mS w a) (1, 9, 0) 255 247 lv (.inr (.inr (mR w a 3)) :: st) (w) := q_getf (v := fun w a => .inr (.inr (mR w a 3))) (jd_of jb_255 dX9_asks_244) jo_255 jk_9_389 (fun _ _ => rfl)
theorem p255_247 (lv : jmL) (st : List jmV) (w : jmW) (a : Nat) : rn 255 (247, lv, jvr a :: st, w) = jq_gs (mS w a) (1, 8, 0) 255 250 lv (.inr (.inr (mR w a 20)) :: st) (w) := q_getf (v := fun w a => .inr (.inr (mR w a 20))) (jd_of jb_255 dX9_asks_247) jo_255 jk_9_340 (fun _ _ => rfl)
theorem p255_250 (lv : jmL) (st : List jmV) (w : jmW) : rn 255 (250, lv, st, w) = jq_ldi 255 251 lv st w (jg lv 2) := q_iload_n (jd_of jb_255 dX9_asks_250) rfl
theorem p255_251 (lv : jmL) (st : List jmV) (w : jmW) (a : Nat) (j : Int) : rn 255 (251, lv, .inl j :: jvr a :: st, w) = jq_gr (mS w a) 0 j 255 252 lv (.inl (mI w a (jix j)) :: st) (w) := q_iald (jd_of jb_255 dX9_asks_251)
theorem p255_252 (lv : jmL) (st : List jmV) (w : jmW) (a : Nat) (j x : Int) : rn 255 (252, lv, .inl x :: .inl j :: jvr a :: st, w) = jq_gw (mS w a) 0 j 255 253 lv (st) (setI w a (jix j) x) := q_iast (jd_of jb_255 dX9_asks_252)
theorem p255_253 (lv : jmL) (st : List jmV) (w : jmW) : rn 255 (253, lv, st, w) = jq_lda 255 254 lv st w (jg lv 1) := q_aload_n (jd_of jb_255 dX9_asks_253) rfl
theorem p255_254 (lv : jmL) (st : List jmV) (w : jmW) : rn 255 (254, lv, st, w) = rn 255 (257, lv, .inl (252) :: st, w) := q_sipush (jd_of jb_255 dX9_asks_254) (by decide +kernel)
theorem p255_257 (lv : jmL) (st : List jmV) (w : jmW) : rn 255 (257, lv, st, w) = jq_ldi 255 259 lv st w (jg lv 6) := q_iload (jd_of jb_255 dX9_asks_257)
theorem p255_259 (lv : jmL) (st : List jmV) (w : jmW) (x y : Int) : rn 255 (259, lv, .inl y :: .inl x :: st, w) = rn 255 (260, lv, .inl (x + y) :: st, w) := q_iadd (jd_of jb_255 dX9_asks_259)
theorem p255_260 (lv : jmL) (st : List jmV) (w : jmW) : rn 255 (260, lv, st, w) = jq_lda 255 261 lv st w (jg lv 0) := q_aload_n (jd_of jb_255 dX9_asks_260) rfl
theorem p255_261 (lv : jmL) (st : List jmV) (w : jmW) (a : Nat) : rn 255 (261, lv, jvr a :: st, w) = jq_gs (mS w a) (1, 9, 0) 255 264 lv (.inr (.inr (mR w a 3)) :: st) (w) := q_getf (v := fun w a => .inr (.inr (mR w a 3))) (jd_of jb_255 dX9_asks_261) jo_255 jk_9_389 (fun _ _ => rfl)
theorem p255_264 (lv : jmL) (st : List jmV) (w : jmW) (a : Nat) : rn 255 (264, lv, jvr a :: st, w) = jq_gs (mS w a) (1, 8, 0) 255 267 lv (.inr (.inr (mR w a 21)) :: st) (w) := q_getf (v := fun w a => .inr (.inr (mR w a 21))) (jd_of jb_255 dX9_asks_264) jo_255 jk_9_343 (fun _ _ => rfl)
theorem p255_267 (lv : jmL) (st : List jmV) (w : jmW) : rn 255 (267, lv, st, w) = jq_ldi 255 268 lv st w (jg lv 2) := q_iload_n (jd_of jb_255 dX9_asks_267) rfl
theorem p255_268 (lv : jmL) (st : List jmV) (w : jmW) (a : Nat) (j : Int) : rn 255 (268, lv, .inl j :: jvr a :: st, w) = jq_gr (mS w a) 0 j 255 269 lv (.inl (mI w a (jix j)) :: st) (w) := q_iald (jd_of jb_255 dX9_asks_268)
theorem p255_269 (lv : jmL) (st : List jmV) (w : jmW) (a : Nat) (j x : Int) : rn 255 (269, lv, .inl x :: .inl j :: jvr a :: st, w) = jq_gw (mS w a) 0 j 255 270 lv (st) (setI w a (jix j) x) := q_iast (jd_of jb_255 dX9_asks_269)
theorem p255_270 (lv : jmL) (st : List jmV) (w : jmW) : rn 255 (270, lv, st, w) = jq_lda 255 271 lv st w (jg lv 1) := q_aload_n (jd_of jb_255 dX9_asks_270) rfl
theorem p255_271 (lv : jmL) (st : List jmV) (w : jmW) : rn 255 (271, lv, st, w) = rn 255 (274, lv, .inl (268) :: st, w) := q_sipush (jd_of jb_255 dX9_asks_271) (by decide +kernel)
theorem p255_274 (lv : jmL) (st : List jmV) (w : jmW) : rn 255 (274, lv, st, w) = jq_ldi 255 276 lv st w (jg lv 6) := q_iload (jd_of jb_255 dX9_asks_274)
theorem p255_276 (lv : jmL) (st : List jmV) (w : jmW) (x y : Int) : rn 255 (276, lv, .inl y :: .inl x :: st, w) = rn 255 (277, lv, .inl (x + y) :: st, w) := q_iadd (jd_of jb_255 dX9_asks_276)
theorem p255_277 (lv : jmL) (st : List jmV) (w : jmW) : rn 255 (277, lv, st, w) = jq_lda 255 278 lv st w (jg lv 0) := q_aload_n (jd_of jb_255 dX9_asks_277) rfl
theorem p255_278 (lv : jmL) (st : List jmV) (w : jmW) (a : Nat) : rn 255 (278, lv, jvr a :: st, w) = jq_gs (mS w a) (1, 9, 0) 255 281 lv (.inr (.inr (mR w a 3)) :: st) (w) := q_getf (v := fun w a => .inr (.inr (mR w a 3))) (jd_of jb_255 dX9_asks_278) jo_255 jk_9_389 (fun _ _ => rfl)
theorem p255_281 (lv : jmL) (st : List jmV) (w : jmW) (a : Nat) : rn 255 (281, lv, jvr a :: st, w) = jq_gs (mS w a) (1, 8, 0) 255 284 lv (.inr (.inr (mR w a 22)) :: st) (w) := q_getf (v := fun w a => .inr (.inr (mR w a 22))) (jd_of jb_255 dX9_asks_281) jo_255 jk_9_346 (fun _ _ => rfl)
theorem p255_284 (lv : jmL) (st : List jmV) (w : jmW) : rn 255 (284, lv, st, w) = jq_ldi 255 285 lv st w (jg lv 2) := q_iload_n (jd_of jb_255 dX9_asks_284) rfl
theorem p255_285 (lv : jmL) (st : List jmV) (w : jmW) (a : Nat) (j : Int) : rn 255 (285, lv, .inl j :: jvr a :: st, w) = jq_gr (mS w a) 0 j 255 286 lv (.inl (mI w a (jix j)) :: st) (w) := q_iald (jd_of jb_255 dX9_asks_285)
theorem p255_286 (lv : jmL) (st : List jmV) (w : jmW) (a : Nat) (j x : Int) : rn 255 (286, lv, .inl x :: .inl j :: jvr a :: st, w) = jq_gw (mS w a) 0 j 255 287 lv (st) (setI w a (jix j) x) := q_iast (jd_of jb_255 dX9_asks_286)
theorem p255_287 (lv : jmL) (st : List jmV) (w : jmW) : rn 255 (287, lv, st, w) = jq_lda 255 288 lv st w (jg lv 1) := q_aload_n (jd_of jb_255 dX9_asks_287) rfl
theorem p255_288 (lv : jmL) (st : List jmV) (w : jmW) : rn 255 (288, lv, st, w) = rn 255 (291, lv, .inl (289) :: st, w) := q_sipush (jd_of jb_255 dX9_asks_288) (by decide +kernel)
theorem p255_291 (lv : jmL) (st : List jmV) (w : jmW) (y : Int) (x : Option Nat) : rn 255 (291, lv, .inl y :: .inr (.inr x) :: st, w) = rn 255 (292, lv, .inl y :: .inr (.inr x) :: .inl y :: .inr (.inr x) :: st, w) := q_dup2 (jd_of jb_255 dX9_asks_291)
theorem p255_292 (lv : jmL) (st : List jmV) (w : jmW) (a : Nat) (j : Int) : rn 255 (292, lv, .inl j :: jvr a :: st, w) = jq_gr (mS w a) 0 j 255 293 lv (.inl (mI w a (jix j)) :: st) (w) := q_iald (jd_of jb_255 dX9_asks_292)
theorem p255_293 (lv : jmL) (st : List jmV) (w : jmW) : rn 255 (293, lv, st, w) = rn 255 (294, lv, .inl (1) :: st, w) := q_iconst (jd_of jb_255 dX9_asks_293)
theorem p255_294 (lv : jmL) (st : List jmV) (w : jmW) (x y : Int) : rn 255 (294, lv, .inl y :: .inl x :: st, w) = rn 255 (295, lv, .inl (x + y) :: st, w) := q_iadd (jd_of jb_255 dX9_asks_294)
theorem p255_295 (lv : jmL) (st : List jmV) (w : jmW) (a : Nat) (j x : Int) : rn 255 (295, lv, .inl x :: .inl j :: jvr a :: st, w) = jq_gw (mS w a) 0 j 255 296 lv (st) (setI w a (jix j) x) := q_iast (jd_of jb_255 dX9_asks_295)
theorem p255_296 (lv : jmL) (st : List jmV) (w : jmW) : rn 255 (296, lv, st, w) = jq_lda 255 297 lv st w (jg lv 1) := q_aload_n (jd_of jb_255 dX9_asks_296) rfl
theorem p255_297 (lv : jmL) (st : List jmV) (w : jmW) : rn 255 (297, lv, st, w) = rn 255 (300, lv, .inl (290) :: st, w) := q_sipush (jd_of jb_255 dX9_asks_297) (by decide +kernel)
theorem p255_300 (lv : jmL) (st : List jmV) (w : jmW) (y : Int) (x : Option Nat) : rn 255 (300, lv, .inl y :: .inr (.inr x) :: st, w) = rn 255 (301, lv, .inl y :: .inr (.inr x) :: .inl y :: .inr (.inr x) :: st, w) := q_dup2 (jd_of jb_255 dX9_asks_300)
theorem p255_301 (lv : jmL) (st : List jmV) (w : jmW) (a : Nat) (j : Int) : rn 255 (301, lv, .inl j :: jvr a :: st, w) = jq_gr (mS w a) 0 j 255 302 lv (.inl (mI w a (jix j)) :: st) (w) := q_iald (jd_of jb_255 dX9_asks_301)
theorem p255_302 (lv : jmL) (st : List jmV) (w : jmW) : rn 255 (302, lv, st, w) = rn 255 (303, lv, .inl (1) :: st, w) := q_iconst (jd_of jb_255 dX9_asks_302)
theorem p255_303 (lv : jmL) (st : List jmV) (w : jmW) (x y : Int) : rn 255 (303, lv, .inl y :: .inl x :: st, w) = rn 255 (304, lv, .inl (x + y) :: st, w) := q_iadd (jd_of jb_255 dX9_asks_303)
theorem p255_304 (lv : jmL) (st : List jmV) (w : jmW) (a : Nat) (j x : Int) : rn 255 (304, lv, .inl x :: .inl j :: jvr a :: st, w) = jq_gw (mS w a) 0 j 255 305 lv (st) (setI w a (jix j) x) := q_iast (jd_of jb_255 dX9_asks_304)
theorem p255_305 (lv : jmL) (st : List jmV) (w : jmW) : rn 255 (305, lv, st, w) = jq_lda 255 306 lv st w (jg lv 1) := q_aload_n (jd_of jb_255 dX9_asks_305) rfl
theorem p255_306 (lv : jmL) (st : List jmV) (w : jmW) : rn 255 (306, lv, st, w) = rn 255 (309, lv, .inl (284) :: st, w) := q_sipush (jd_of jb_255 dX9_asks_306) (by decide +kernel)
theorem p255_309 (lv : jmL) (st : List jmV) (w : jmW) : rn 255 (309, lv, st, w) = jq_ldi 255 310 lv st w (jg lv 2) := q_iload_n (jd_of jb_255 dX9_asks_309) rfl
theorem p255_310 (lv : jmL) (st : List jmV) (w : jmW) (x y : Int) : rn 255 (310, lv, .inl y :: .inl x :: st, w) = rn 255 (311, lv, .inl (x + y) :: st, w) := q_iadd (jd_of jb_255 dX9_asks_310)
theorem p255_311 (lv : jmL) (st : List jmV) (w : jmW) (y : Int) (x : Option Nat) : rn 255 (311, lv, .inl y :: .inr (.inr x) :: st, w) = rn 255 (312, lv, .inl y :: .inr (.inr x) :: .inl y :: .inr (.inr x) :: st, w) := q_dup2 (jd_of jb_255 dX9_asks_311)
theorem p255_312 (lv : jmL) (st : List jmV) (w : jmW) (a : Nat) (j : Int) : rn 255 (312, lv, .inl j :: jvr a :: st, w) = jq_gr (mS w a) 0 j 255 313 lv (.inl (mI w a (jix j)) :: st) (w) := q_iald (jd_of jb_255 dX9_asks_312)
theorem p255_313 (lv : jmL) (st : List jmV) (w : jmW) : rn 255 (313, lv, st, w) = rn 255 (314, lv, .inl (1) :: st, w) := q_iconst (jd_of jb_255 dX9_asks_313)
theorem p255_314 (lv : jmL) (st : List jmV) (w : jmW) (x y : Int) : rn 255 (314, lv, .inl y :: .inl x :: st, w) = rn 255 (315, lv, .inl (x - y) :: st, w) := q_isub (jd_of jb_255 dX9_asks_314)
theorem p255_315 (lv : jmL) (st : List jmV) (w : jmW) (a : Nat) (j x : Int) : rn 255 (315, lv, .inl x :: .inl j :: jvr a :: st, w) = jq_gw (mS w a) 0 j 255 316 lv (st) (setI w a (jix j) x) := q_iast (jd_of jb_255 dX9_asks_315)
theorem p255_316 (lv : jmL) (st : List jmV) (w : jmW) : rn 255 (316, lv, st, w) = jq_lda 255 317 lv st w (jg lv 0) := q_aload_n (jd_of jb_255 dX9_asks_316) rfl
theorem p255_317i (lv : jmL) (st : List jmV) (w : jmW) (x : Int) : rn 255 (317, lv, .inl x :: st, w) = rn 255 (318, lv, .inl x :: .inl x :: st, w) := q_dup_i (jd_of jb_255 dX9_asks_317)
theorem p255_317a (lv : jmL) (st : List jmV) (w : jmW) (x : Option Nat) : rn 255 (317, lv, .inr (.inr x) :: st, w) = rn 255 (318, lv, .inr (.inr x) :: .inr (.inr x) :: st, w) := q_dup_a (jd_of jb_255 dX9_asks_317)
theorem p255_318 (lv : jmL) (st : List jmV) (w : jmW) (a : Nat) : rn 255 (318, lv, jvr a :: st, w) = jq_gs (mS w a) (1, 9, 0) 255 321 lv (.inl (mI w a 32) :: st) (w) := q_getf (v := fun w a => .inl (mI w a 32)) (jd_of jb_255 dX9_asks_318) jo_255 jk_9_472 (fun _ _ => rfl)
theorem p255_321 (lv : jmL) (st : List jmV) (w : jmW) : rn 255 (321, lv, st, w) = rn 255 (322, lv, .inl (1) :: st, w) := q_iconst (jd_of jb_255 dX9_asks_321)
theorem p255_322 (lv : jmL) (st : List jmV) (w : jmW) (x y : Int) : rn 255 (322, lv, .inl y :: .inl x :: st, w) = rn 255 (323, lv, .inl (x + y) :: st, w) := q_iadd (jd_of jb_255 dX9_asks_322)
theorem p255_323 (lv : jmL) (st : List jmV) (w : jmW) (a : Nat) (x : Int) : rn 255 (323, lv, .inl x :: jvr a :: st, w) = jq_gs (mS w a) (1, 9, 0) 255 326 lv (st) (setI w a 32 x) := q_putf (jd_of jb_255 dX9_asks_323) jo_255 jk_9_472 (Or.inl rfl) rfl
theorem p255_326 (lv : jmL) (w : jmW) : rn 255 (326, lv, [], w) = some (none, w) := q_return (jd_of jb_255 dX9_asks_326) jr_255
theorem p256_0 (lv : jmL) (st : List jmV) (w : jmW) : rn 256 (0, lv, st, w) = rn 256 (1, lv, .inl (0) :: st, w) := q_iconst (jd_of jb_256 dX8_isBeside_0)
theorem p256_1 (lv : jmL) (st : List jmV) (w : jmW) (x : Int) : rn 256 (1, lv, .inl x :: st, w) = rn 256 (2, js lv 3 (.inl x), st, w) := q_istore_n (jd_of jb_256 dX8_isBeside_1) rfl (by rw [jm_256]; decide)
theorem p256_2 (lv : jmL) (st : List jmV) (w : jmW) : rn 256 (2, lv, st, w) = jq_ldi 256 3 lv st w (jg lv 3) := q_iload_n (jd_of jb_256 dX8_isBeside_2) rfl
theorem p256_3 (lv : jmL) (st : List jmV) (w : jmW) : rn 256 (3, lv, st, w) = rn 256 (4, lv, .inl (4) :: st, w) := q_iconst (jd_of jb_256 dX8_isBeside_3)
theorem p256_4 (lv : jmL) (st : List jmV) (w : jmW) (x y : Int) : rn 256 (4, lv, .inl y :: .inl x :: st, w) = if jw x < jw y then rn 256 (7, lv, st, w) else rn 256 (25, lv, st, w) := q_icmp_ge (jd_of jb_256 dX8_isBeside_4) (by decide)
theorem p256_7 (lv : jmL) (st : List jmV) (w : jmW) : rn 256 (7, lv, st, w) = jq_lda 256 8 lv st w (jg lv 0) := q_aload_n (jd_of jb_256 dX8_isBeside_7) rfl
theorem p256_8 (lv : jmL) (st : List jmV) (w : jmW) : rn 256 (8, lv, st, w) = jq_ldi 256 9 lv st w (jg lv 1) := q_iload_n (jd_of jb_256 dX8_isBeside_8) rfl
theorem p256_9 (lv : jmL) (st : List jmV) (w : jmW) : rn 256 (9, lv, st, w) = jq_ldi 256 10 lv st w (jg lv 3) := q_iload_n (jd_of jb_256 dX8_isBeside_9) rfl
theorem p256_10 (lv : jmL) (st : List jmV) (w : jmW) (b : Nat) (x1 : Int) (x2 : Int) : rn 256 (10, lv, .inl x2 :: .inl x1 :: jvr b :: st, w) = jq_s (mS w b) (1, 8, 0) (jq_b (decide (jwd st ≤ 8)) (jq_c 256 13 lv st (rn 209 (0, [(0, jvr b), (1, .inl x1), (2, .inl x2)], [], w)))) := q_callv (as := [.inl x1, .inl x2]) (rest := st) (jd_of jb_256 dX8_isBeside_10) jo_256 jk_8_84 rfl rfl rfl jo_209 jf_256_209 (Nat.le_of_ble_eq_true rfl)
theorem p256_13 (lv : jmL) (st : List jmV) (w : jmW) : rn 256 (13, lv, st, w) = jq_ldi 256 14 lv st w (jg lv 2) := q_iload_n (jd_of jb_256 dX8_isBeside_13) rfl
theorem p256_14 (lv : jmL) (st : List jmV) (w : jmW) (x y : Int) : rn 256 (14, lv, .inl y :: .inl x :: st, w) = if jw x = jw y then rn 256 (17, lv, st, w) else rn 256 (19, lv, st, w) := q_icmp_ne (jd_of jb_256 dX8_isBeside_14) (by decide)
theorem p256_17 (lv : jmL) (st : List jmV) (w : jmW) : rn 256 (17, lv, st, w) = rn 256 (18, lv, .inl (1) :: st, w) := q_iconst (jd_of jb_256 dX8_isBeside_17)
theorem p256_18 (lv : jmL) (w : jmW) (x : Int) : rn 256 (18, lv, [.inl x], w) = jq_b (decide (x = 0 ∨ x = 1)) (some (some (.inl x), w)) := q_zreturn (jd_of jb_256 dX8_isBeside_18) jr_256
theorem p256_19 (lv : jmL) (st : List jmV) (w : jmW) : rn 256 (19, lv, st, w) = jq_inc 256 22 lv 3 (1) st w (jg lv 3) := q_iinc (jd_of jb_256 dX8_isBeside_19) (by rw [jm_256]; decide)
theorem p256_22 (lv : jmL) (st : List jmV) (w : jmW) : rn 256 (22, lv, st, w) = rn 256 (2, lv, st, w) := q_goto (jd_of jb_256 dX8_isBeside_22) (by decide)
theorem p256_25 (lv : jmL) (st : List jmV) (w : jmW) : rn 256 (25, lv, st, w) = rn 256 (26, lv, .inl (0) :: st, w) := q_iconst (jd_of jb_256 dX8_isBeside_25)
theorem p256_26 (lv : jmL) (w : jmW) (x : Int) : rn 256 (26, lv, [.inl x], w) = jq_b (decide (x = 0 ∨ x = 1)) (some (some (.inl x), w)) := q_zreturn (jd_of jb_256 dX8_isBeside_26) jr_256
theorem p257_0 (lv : jmL) (st : List jmV) (w : jmW) : rn 257 (0, lv, st, w) = jq_lda 257 1 lv st w (jg lv 0) := q_aload_n (jd_of jb_257 dX9_at_0) rfl
theorem p257_1 (lv : jmL) (st : List jmV) (w : jmW) : rn 257 (1, lv, st, w) = rn 257 (2, lv, .inl (0) :: st, w) := q_iconst (jd_of jb_257 dX9_at_1)
theorem p257_2 (lv : jmL) (st : List jmV) (w : jmW) (a : Nat) (x : Int) : rn 257 (2, lv, .inl x :: jvr a :: st, w) = jq_gs (mS w a) (1, 9, 0) 257 5 lv (st) (setI w a 0 x) := q_putf (jd_of jb_257 dX9_at_2) jo_257 jk_9_54 (Or.inl rfl) rfl
theorem p257_5 (lv : jmL) (st : List jmV) (w : jmW) : rn 257 (5, lv, st, w) = jq_ldi 257 6 lv st w (jg lv 1) := q_iload_n (jd_of jb_257 dX9_at_5) rfl
theorem p257_6 (lv : jmL) (st : List jmV) (w : jmW) (x : Int) : rn 257 (6, lv, .inl x :: st, w) = if jw x < 0 then rn 257 (9, lv, st, w) else rn 257 (13, lv, st, w) := q_if_ge (jd_of jb_257 dX9_at_6) (by decide)
theorem p257_9 (lv : jmL) (st : List jmV) (w : jmW) : rn 257 (9, lv, st, w) = rn 257 (10, lv, .inl (1) :: st, w) := q_iconst (jd_of jb_257 dX9_at_9)
theorem p257_10 (lv : jmL) (st : List jmV) (w : jmW) : rn 257 (10, lv, st, w) = rn 257 (18, lv, st, w) := q_goto (jd_of jb_257 dX9_at_10) (by decide)
theorem p257_13 (lv : jmL) (st : List jmV) (w : jmW) : rn 257 (13, lv, st, w) = jq_lda 257 14 lv st w (jg lv 0) := q_aload_n (jd_of jb_257 dX9_at_13) rfl
theorem p257_14 (lv : jmL) (st : List jmV) (w : jmW) : rn 257 (14, lv, st, w) = jq_ldi 257 15 lv st w (jg lv 2) := q_iload_n (jd_of jb_257 dX9_at_14) rfl
theorem p257_15 (lv : jmL) (st : List jmV) (w : jmW) (b : Nat) (x1 : Int) : rn 257 (15, lv, .inl x1 :: jvr b :: st, w) = jq_s (mS w b) (1, 9, 0) (jq_b (decide (jwd st ≤ 8)) (jq_c 257 18 lv st (rn 234 (0, [(0, jvr b), (1, .inl x1)], [], w)))) := q_callv (as := [.inl x1]) (rest := st) (jd_of jb_257 dX9_at_15) jo_257 jk_9_517 rfl rfl rfl jo_234 jf_257_234 (Nat.le_of_ble_eq_true rfl)
theorem p257_18 (lv : jmL) (st : List jmV) (w : jmW) (x : Int) : rn 257 (18, lv, .inl x :: st, w) = rn 257 (19, js lv 3 (.inl x), st, w) := q_istore_n (jd_of jb_257 dX9_at_18) rfl (by rw [jm_257]; decide)
theorem p257_19 (lv : jmL) (st : List jmV) (w : jmW) : rn 257 (19, lv, st, w) = jq_ldi 257 20 lv st w (jg lv 3) := q_iload_n (jd_of jb_257 dX9_at_19) rfl
theorem p257_20 (lv : jmL) (st : List jmV) (w : jmW) (x : Int) : rn 257 (20, lv, .inl x :: st, w) = if 0 < jw x then rn 257 (23, lv, st, w) else rn 257 (29, lv, st, w) := q_if_le (jd_of jb_257 dX9_at_20) (by decide)
theorem p257_23 (lv : jmL) (st : List jmV) (w : jmW) : rn 257 (23, lv, st, w) = jq_lda 257 24 lv st w (jg lv 0) := q_aload_n (jd_of jb_257 dX9_at_23) rfl
theorem p257_24 (lv : jmL) (st : List jmV) (w : jmW) : rn 257 (24, lv, st, w) = jq_ldi 257 25 lv st w (jg lv 3) := q_iload_n (jd_of jb_257 dX9_at_24) rfl
theorem p257_25 (lv : jmL) (st : List jmV) (w : jmW) (b : Nat) (x1 : Int) : rn 257 (25, lv, .inl x1 :: jvr b :: st, w) = jq_s (mS w b) (1, 9, 0) (jq_b (decide (jwd st ≤ 8)) (jq_c 257 28 lv st (rn 176 (0, [(0, jvr b), (1, .inl x1)], [], w)))) := q_callv (as := [.inl x1]) (rest := st) (jd_of jb_257 dX9_at_25) jo_257 jk_9_60 rfl rfl rfl jo_176 jf_257_176 (Nat.le_of_ble_eq_true rfl)
theorem p257_28 (lv : jmL) (w : jmW) (x : Int) : rn 257 (28, lv, [.inl x], w) = some (some (.inl x), w) := q_ireturn (jd_of jb_257 dX9_at_28) jr_257
theorem p257_29 (lv : jmL) (st : List jmV) (w : jmW) : rn 257 (29, lv, st, w) = jq_lda 257 30 lv st w (jg lv 0) := q_aload_n (jd_of jb_257 dX9_at_29) rfl
theorem p257_30 (lv : jmL) (st : List jmV) (w : jmW) : rn 257 (30, lv, st, w) = jq_ldi 257 31 lv st w (jg lv 2) := q_iload_n (jd_of jb_257 dX9_at_30) rfl
theorem p257_31 (lv : jmL) (st : List jmV) (w : jmW) (b : Nat) (x1 : Int) : rn 257 (31, lv, .inl x1 :: jvr b :: st, w) = jq_s (mS w b) (1, 9, 0) (jq_b (decide (jwd st ≤ 8)) (jq_c 257 34 lv st (rn 235 (0, [(0, jvr b), (1, .inl x1)], [], w)))) := q_callv (as := [.inl x1]) (rest := st) (jd_of jb_257 dX9_at_31) jo_257 jk_9_520 rfl rfl rfl jo_235 jf_257_235 (Nat.le_of_ble_eq_true rfl)
theorem p257_34 (lv : jmL) (st : List jmV) (w : jmW) : rn 257 (34, lv, st, w) = jq_lda 257 35 lv st w (jg lv 0) := q_aload_n (jd_of jb_257 dX9_at_34) rfl
theorem p257_35 (lv : jmL) (st : List jmV) (w : jmW) (a : Nat) : rn 257 (35, lv, jvr a :: st, w) = jq_gs (mS w a) (1, 9, 0) 257 38 lv (.inr (.inr (mR w a 19)) :: st) (w) := q_getf (v := fun w a => .inr (.inr (mR w a 19))) (jd_of jb_257 dX9_at_35) jo_257 jk_9_24 (fun _ _ => rfl)
theorem p257_38 (lv : jmL) (st : List jmV) (w : jmW) : rn 257 (38, lv, st, w) = jq_ldi 257 39 lv st w (jg lv 1) := q_iload_n (jd_of jb_257 dX9_at_38) rfl
theorem p257_39 (lv : jmL) (st : List jmV) (w : jmW) (x1 : Option Nat) (x2 : Int) : rn 257 (39, lv, .inl x2 :: .inr (.inr x1) :: st, w) = jq_b (decide (jwd st ≤ 8)) (jq_c 257 42 lv st (rn 258 (0, [(0, .inr (.inr x1)), (1, .inl x2)], [], w))) := q_calls (as := [.inr (.inr x1), .inl x2]) (rest := st) (jd_of jb_257 dX9_at_39) jo_257 jk_9_523 rfl rfl rfl jf_257_258 (Nat.le_of_ble_eq_true rfl)
theorem p257_42 (lv : jmL) (st : List jmV) (w : jmW) (x : Int) : rn 257 (42, lv, .inl x :: st, w) = rn 257 (44, js lv 4 (.inl x), st, w) := q_istore (jd_of jb_257 dX9_at_42) (by rw [jm_257]; decide)
theorem p257_44 (lv : jmL) (st : List jmV) (w : jmW) : rn 257 (44, lv, st, w) = jq_lda 257 45 lv st w (jg lv 0) := q_aload_n (jd_of jb_257 dX9_at_44) rfl
theorem p257_45 (lv : jmL) (st : List jmV) (w : jmW) : rn 257 (45, lv, st, w) = jq_ldi 257 47 lv st w (jg lv 4) := q_iload (jd_of jb_257 dX9_at_45)
theorem p257_47 (lv : jmL) (st : List jmV) (w : jmW) : rn 257 (47, lv, st, w) = rn 257 (48, lv, .inl (-1) :: st, w) := q_iconst (jd_of jb_257 dX9_at_47)
theorem p257_48 (lv : jmL) (st : List jmV) (w : jmW) (x y : Int) : rn 257 (48, lv, .inl y :: .inl x :: st, w) = if jw x = jw y then rn 257 (51, lv, st, w) else rn 257 (56, lv, st, w) := q_icmp_ne (jd_of jb_257 dX9_at_48) (by decide)
theorem p257_51 (lv : jmL) (st : List jmV) (w : jmW) : rn 257 (51, lv, st, w) = rn 257 (53, lv, .inl (-2) :: st, w) := q_bipush (jd_of jb_257 dX9_at_51) (by decide +kernel)
theorem p257_53 (lv : jmL) (st : List jmV) (w : jmW) : rn 257 (53, lv, st, w) = rn 257 (65, lv, st, w) := q_goto (jd_of jb_257 dX9_at_53) (by decide)
theorem p257_56 (lv : jmL) (st : List jmV) (w : jmW) : rn 257 (56, lv, st, w) = jq_lda 257 57 lv st w (jg lv 0) := q_aload_n (jd_of jb_257 dX9_at_56) rfl
theorem p257_57 (lv : jmL) (st : List jmV) (w : jmW) (a : Nat) : rn 257 (57, lv, jvr a :: st, w) = jq_gs (mS w a) (1, 9, 0) 257 60 lv (.inr (.inr (mR w a 19)) :: st) (w) := q_getf (v := fun w a => .inr (.inr (mR w a 19))) (jd_of jb_257 dX9_at_57) jo_257 jk_9_24 (fun _ _ => rfl)
theorem p257_60 (lv : jmL) (st : List jmV) (w : jmW) : rn 257 (60, lv, st, w) = jq_ldi 257 62 lv st w (jg lv 4) := q_iload (jd_of jb_257 dX9_at_60)
theorem p257_62 (lv : jmL) (st : List jmV) (w : jmW) (x1 : Option Nat) (x2 : Int) : rn 257 (62, lv, .inl x2 :: .inr (.inr x1) :: st, w) = jq_b (decide (jwd st ≤ 8)) (jq_c 257 65 lv st (rn 221 (0, [(0, .inr (.inr x1)), (1, .inl x2)], [], w))) := q_calls (as := [.inr (.inr x1), .inl x2]) (rest := st) (jd_of jb_257 dX9_at_62) jo_257 jk_9_409 rfl rfl rfl jf_257_221 (Nat.le_of_ble_eq_true rfl)
theorem p257_65 (lv : jmL) (st : List jmV) (w : jmW) (b : Nat) (x1 : Int) : rn 257 (65, lv, .inl x1 :: jvr b :: st, w) = jq_s (mS w b) (1, 9, 0) (jq_b (decide (jwd st ≤ 8)) (jq_c 257 68 lv st (rn 213 (0, [(0, jvr b), (1, .inl x1)], [], w)))) := q_callv (as := [.inl x1]) (rest := st) (jd_of jb_257 dX9_at_65) jo_257 jk_9_64 rfl rfl rfl jo_213 jf_257_213 (Nat.le_of_ble_eq_true rfl)
theorem p257_68 (lv : jmL) (w : jmW) (x : Int) : rn 257 (68, lv, [.inl x], w) = some (some (.inl x), w) := q_ireturn (jd_of jb_257 dX9_at_68) jr_257
theorem p258_0 (lv : jmL) (st : List jmV) (w : jmW) : rn 258 (0, lv, st, w) = rn 258 (1, lv, .inl (0) :: st, w) := q_iconst (jd_of jb_258 dX9_indexOf_0)
theorem p258_1 (lv : jmL) (st : List jmV) (w : jmW) (x : Int) : rn 258 (1, lv, .inl x :: st, w) = rn 258 (2, js lv 2 (.inl x), st, w) := q_istore_n (jd_of jb_258 dX9_indexOf_1) rfl (by rw [jm_258]; decide)
theorem p258_2 (lv : jmL) (st : List jmV) (w : jmW) : rn 258 (2, lv, st, w) = jq_ldi 258 3 lv st w (jg lv 2) := q_iload_n (jd_of jb_258 dX9_indexOf_2) rfl
theorem p258_3 (lv : jmL) (st : List jmV) (w : jmW) : rn 258 (3, lv, st, w) = jq_lda 258 4 lv st w (jg lv 0) := q_aload_n (jd_of jb_258 dX9_indexOf_3) rfl
theorem p258_4 (lv : jmL) (st : List jmV) (w : jmW) : rn 258 (4, lv, st, w) = rn 258 (7, lv, .inl (289) :: st, w) := q_sipush (jd_of jb_258 dX9_indexOf_4) (by decide +kernel)
theorem p258_7 (lv : jmL) (st : List jmV) (w : jmW) (a : Nat) (j : Int) : rn 258 (7, lv, .inl j :: jvr a :: st, w) = jq_gr (mS w a) 0 j 258 8 lv (.inl (mI w a (jix j)) :: st) (w) := q_iald (jd_of jb_258 dX9_indexOf_7)
theorem p258_8 (lv : jmL) (st : List jmV) (w : jmW) (x y : Int) : rn 258 (8, lv, .inl y :: .inl x :: st, w) = if jw x < jw y then rn 258 (11, lv, st, w) else rn 258 (30, lv, st, w) := q_icmp_ge (jd_of jb_258 dX9_indexOf_8) (by decide)
theorem p258_11 (lv : jmL) (st : List jmV) (w : jmW) : rn 258 (11, lv, st, w) = jq_lda 258 12 lv st w (jg lv 0) := q_aload_n (jd_of jb_258 dX9_indexOf_11) rfl
theorem p258_12 (lv : jmL) (st : List jmV) (w : jmW) : rn 258 (12, lv, st, w) = rn 258 (15, lv, .inl (204) :: st, w) := q_sipush (jd_of jb_258 dX9_indexOf_12) (by decide +kernel)
theorem p258_15 (lv : jmL) (st : List jmV) (w : jmW) : rn 258 (15, lv, st, w) = jq_ldi 258 16 lv st w (jg lv 2) := q_iload_n (jd_of jb_258 dX9_indexOf_15) rfl
theorem p258_16 (lv : jmL) (st : List jmV) (w : jmW) (x y : Int) : rn 258 (16, lv, .inl y :: .inl x :: st, w) = rn 258 (17, lv, .inl (x + y) :: st, w) := q_iadd (jd_of jb_258 dX9_indexOf_16)
theorem p258_17 (lv : jmL) (st : List jmV) (w : jmW) (a : Nat) (j : Int) : rn 258 (17, lv, .inl j :: jvr a :: st, w) = jq_gr (mS w a) 0 j 258 18 lv (.inl (mI w a (jix j)) :: st) (w) := q_iald (jd_of jb_258 dX9_indexOf_17)
theorem p258_18 (lv : jmL) (st : List jmV) (w : jmW) : rn 258 (18, lv, st, w) = jq_ldi 258 19 lv st w (jg lv 1) := q_iload_n (jd_of jb_258 dX9_indexOf_18) rfl
theorem p258_19 (lv : jmL) (st : List jmV) (w : jmW) (x y : Int) : rn 258 (19, lv, .inl y :: .inl x :: st, w) = if jw x = jw y then rn 258 (22, lv, st, w) else rn 258 (24, lv, st, w) := q_icmp_ne (jd_of jb_258 dX9_indexOf_19) (by decide)
theorem p258_22 (lv : jmL) (st : List jmV) (w : jmW) : rn 258 (22, lv, st, w) = jq_ldi 258 23 lv st w (jg lv 2) := q_iload_n (jd_of jb_258 dX9_indexOf_22) rfl
theorem p258_23 (lv : jmL) (w : jmW) (x : Int) : rn 258 (23, lv, [.inl x], w) = some (some (.inl x), w) := q_ireturn (jd_of jb_258 dX9_indexOf_23) jr_258
theorem p258_24 (lv : jmL) (st : List jmV) (w : jmW) : rn 258 (24, lv, st, w) = jq_inc 258 27 lv 2 (1) st w (jg lv 2) := q_iinc (jd_of jb_258 dX9_indexOf_24) (by rw [jm_258]; decide)
theorem p258_27 (lv : jmL) (st : List jmV) (w : jmW) : rn 258 (27, lv, st, w) = rn 258 (2, lv, st, w) := q_goto (jd_of jb_258 dX9_indexOf_27) (by decide)
theorem p258_30 (lv : jmL) (st : List jmV) (w : jmW) : rn 258 (30, lv, st, w) = rn 258 (31, lv, .inl (-1) :: st, w) := q_iconst (jd_of jb_258 dX9_indexOf_30)
theorem p258_31 (lv : jmL) (w : jmW) (x : Int) : rn 258 (31, lv, [.inl x], w) = some (some (.inl x), w) := q_ireturn (jd_of jb_258 dX9_indexOf_31) jr_258
theorem p259_0 (lv : jmL) (st : List jmV) (w : jmW) : rn 259 (0, lv, st, w) = jq_lda 259 1 lv st w (jg lv 0) := q_aload_n (jd_of jb_259 dX9_ran_0) rfl
theorem p259_1 (lv : jmL) (st : List jmV) (w : jmW) : rn 259 (1, lv, st, w) = rn 259 (2, lv, .inl (0) :: st, w) := q_iconst (jd_of jb_259 dX9_ran_1)
theorem p259_2 (lv : jmL) (st : List jmV) (w : jmW) (a : Nat) (x : Int) : rn 259 (2, lv, .inl x :: jvr a :: st, w) = jq_gs (mS w a) (1, 9, 0) 259 5 lv (st) (setI w a 0 x) := q_putf (jd_of jb_259 dX9_ran_2) jo_259 jk_9_54 (Or.inl rfl) rfl
theorem p259_5 (lv : jmL) (st : List jmV) (w : jmW) : rn 259 (5, lv, st, w) = jq_ldi 259 6 lv st w (jg lv 1) := q_iload_n (jd_of jb_259 dX9_ran_5) rfl
theorem p259_6 (lv : jmL) (st : List jmV) (w : jmW) (x : Int) : rn 259 (6, lv, .inl x :: st, w) = if jw x < 0 then rn 259 (9, lv, st, w) else rn 259 (13, lv, st, w) := q_if_ge (jd_of jb_259 dX9_ran_6) (by decide)
theorem p259_9 (lv : jmL) (st : List jmV) (w : jmW) : rn 259 (9, lv, st, w) = rn 259 (10, lv, .inl (1) :: st, w) := q_iconst (jd_of jb_259 dX9_ran_9)
theorem p259_10 (lv : jmL) (st : List jmV) (w : jmW) : rn 259 (10, lv, st, w) = rn 259 (18, lv, st, w) := q_goto (jd_of jb_259 dX9_ran_10) (by decide)
theorem p259_13 (lv : jmL) (st : List jmV) (w : jmW) : rn 259 (13, lv, st, w) = jq_lda 259 14 lv st w (jg lv 0) := q_aload_n (jd_of jb_259 dX9_ran_13) rfl
theorem p259_14 (lv : jmL) (st : List jmV) (w : jmW) : rn 259 (14, lv, st, w) = jq_ldi 259 15 lv st w (jg lv 2) := q_iload_n (jd_of jb_259 dX9_ran_14) rfl
theorem p259_15 (lv : jmL) (st : List jmV) (w : jmW) (b : Nat) (x1 : Int) : rn 259 (15, lv, .inl x1 :: jvr b :: st, w) = jq_s (mS w b) (1, 9, 0) (jq_b (decide (jwd st ≤ 8)) (jq_c 259 18 lv st (rn 234 (0, [(0, jvr b), (1, .inl x1)], [], w)))) := q_callv (as := [.inl x1]) (rest := st) (jd_of jb_259 dX9_ran_15) jo_259 jk_9_517 rfl rfl rfl jo_234 jf_259_234 (Nat.le_of_ble_eq_true rfl)
theorem p259_18 (lv : jmL) (st : List jmV) (w : jmW) (x : Int) : rn 259 (18, lv, .inl x :: st, w) = rn 259 (19, js lv 3 (.inl x), st, w) := q_istore_n (jd_of jb_259 dX9_ran_18) rfl (by rw [jm_259]; decide)
theorem p259_19 (lv : jmL) (st : List jmV) (w : jmW) : rn 259 (19, lv, st, w) = jq_ldi 259 20 lv st w (jg lv 3) := q_iload_n (jd_of jb_259 dX9_ran_19) rfl
theorem p259_20 (lv : jmL) (st : List jmV) (w : jmW) (x : Int) : rn 259 (20, lv, .inl x :: st, w) = if 0 < jw x then rn 259 (23, lv, st, w) else rn 259 (29, lv, st, w) := q_if_le (jd_of jb_259 dX9_ran_20) (by decide)
theorem p259_23 (lv : jmL) (st : List jmV) (w : jmW) : rn 259 (23, lv, st, w) = jq_lda 259 24 lv st w (jg lv 0) := q_aload_n (jd_of jb_259 dX9_ran_23) rfl
theorem p259_24 (lv : jmL) (st : List jmV) (w : jmW) : rn 259 (24, lv, st, w) = jq_ldi 259 25 lv st w (jg lv 3) := q_iload_n (jd_of jb_259 dX9_ran_24) rfl
theorem p259_25 (lv : jmL) (st : List jmV) (w : jmW) (b : Nat) (x1 : Int) : rn 259 (25, lv, .inl x1 :: jvr b :: st, w) = jq_s (mS w b) (1, 9, 0) (jq_b (decide (jwd st ≤ 8)) (jq_c 259 28 lv st (rn 176 (0, [(0, jvr b), (1, .inl x1)], [], w)))) := q_callv (as := [.inl x1]) (rest := st) (jd_of jb_259 dX9_ran_25) jo_259 jk_9_60 rfl rfl rfl jo_176 jf_259_176 (Nat.le_of_ble_eq_true rfl)
theorem p259_28 (lv : jmL) (w : jmW) (x : Int) : rn 259 (28, lv, [.inl x], w) = some (some (.inl x), w) := q_ireturn (jd_of jb_259 dX9_ran_28) jr_259
theorem p259_29 (lv : jmL) (st : List jmV) (w : jmW) : rn 259 (29, lv, st, w) = jq_lda 259 30 lv st w (jg lv 0) := q_aload_n (jd_of jb_259 dX9_ran_29) rfl
theorem p259_30 (lv : jmL) (st : List jmV) (w : jmW) : rn 259 (30, lv, st, w) = jq_ldi 259 31 lv st w (jg lv 2) := q_iload_n (jd_of jb_259 dX9_ran_30) rfl
theorem p259_31 (lv : jmL) (st : List jmV) (w : jmW) (b : Nat) (x1 : Int) : rn 259 (31, lv, .inl x1 :: jvr b :: st, w) = jq_s (mS w b) (1, 9, 0) (jq_b (decide (jwd st ≤ 8)) (jq_c 259 34 lv st (rn 235 (0, [(0, jvr b), (1, .inl x1)], [], w)))) := q_callv (as := [.inl x1]) (rest := st) (jd_of jb_259 dX9_ran_31) jo_259 jk_9_520 rfl rfl rfl jo_235 jf_259_235 (Nat.le_of_ble_eq_true rfl)
theorem p259_34 (lv : jmL) (st : List jmV) (w : jmW) : rn 259 (34, lv, st, w) = jq_lda 259 35 lv st w (jg lv 0) := q_aload_n (jd_of jb_259 dX9_ran_34) rfl
theorem p259_35 (lv : jmL) (st : List jmV) (w : jmW) : rn 259 (35, lv, st, w) = jq_lda 259 36 lv st w (jg lv 0) := q_aload_n (jd_of jb_259 dX9_ran_35) rfl
theorem p259_36 (lv : jmL) (st : List jmV) (w : jmW) (a : Nat) : rn 259 (36, lv, jvr a :: st, w) = jq_gs (mS w a) (1, 9, 0) 259 39 lv (.inr (.inr (mR w a 19)) :: st) (w) := q_getf (v := fun w a => .inr (.inr (mR w a 19))) (jd_of jb_259 dX9_ran_36) jo_259 jk_9_24 (fun _ _ => rfl)
theorem p259_39 (lv : jmL) (st : List jmV) (w : jmW) : rn 259 (39, lv, st, w) = jq_ldi 259 40 lv st w (jg lv 1) := q_iload_n (jd_of jb_259 dX9_ran_39) rfl
theorem p259_40 (lv : jmL) (st : List jmV) (w : jmW) (x1 : Option Nat) (x2 : Int) : rn 259 (40, lv, .inl x2 :: .inr (.inr x1) :: st, w) = jq_b (decide (jwd st ≤ 8)) (jq_c 259 43 lv st (rn 258 (0, [(0, .inr (.inr x1)), (1, .inl x2)], [], w))) := q_calls (as := [.inr (.inr x1), .inl x2]) (rest := st) (jd_of jb_259 dX9_ran_40) jo_259 jk_9_523 rfl rfl rfl jf_259_258 (Nat.le_of_ble_eq_true rfl)
theorem p259_43 (lv : jmL) (st : List jmV) (w : jmW) : rn 259 (43, lv, st, w) = rn 259 (44, lv, .inl (-1) :: st, w) := q_iconst (jd_of jb_259 dX9_ran_43)
theorem p259_44 (lv : jmL) (st : List jmV) (w : jmW) (x y : Int) : rn 259 (44, lv, .inl y :: .inl x :: st, w) = if jw x = jw y then rn 259 (47, lv, st, w) else rn 259 (51, lv, st, w) := q_icmp_ne (jd_of jb_259 dX9_ran_44) (by decide)
theorem p259_47 (lv : jmL) (st : List jmV) (w : jmW) : rn 259 (47, lv, st, w) = rn 259 (48, lv, .inl (0) :: st, w) := q_iconst (jd_of jb_259 dX9_ran_47)
theorem p259_48 (lv : jmL) (st : List jmV) (w : jmW) : rn 259 (48, lv, st, w) = rn 259 (57, lv, st, w) := q_goto (jd_of jb_259 dX9_ran_48) (by decide)
theorem p259_51 (lv : jmL) (st : List jmV) (w : jmW) : rn 259 (51, lv, st, w) = jq_lda 259 52 lv st w (jg lv 0) := q_aload_n (jd_of jb_259 dX9_ran_51) rfl
theorem p259_52 (lv : jmL) (st : List jmV) (w : jmW) (a : Nat) : rn 259 (52, lv, jvr a :: st, w) = jq_gs (mS w a) (1, 9, 0) 259 55 lv (.inr (.inr (mR w a 29)) :: st) (w) := q_getf (v := fun w a => .inr (.inr (mR w a 29))) (jd_of jb_259 dX9_ran_52) jo_259 jk_9_42 (fun _ _ => rfl)
theorem p259_55 (lv : jmL) (st : List jmV) (w : jmW) : rn 259 (55, lv, st, w) = jq_ldi 259 56 lv st w (jg lv 1) := q_iload_n (jd_of jb_259 dX9_ran_55) rfl
theorem p259_56 (lv : jmL) (st : List jmV) (w : jmW) (a : Nat) (j : Int) : rn 259 (56, lv, .inl j :: jvr a :: st, w) = jq_gr (mS w a) 0 j 259 57 lv (.inl (mI w a (jix j)) :: st) (w) := q_iald (jd_of jb_259 dX9_ran_56)
theorem p259_57 (lv : jmL) (st : List jmV) (w : jmW) (b : Nat) (x1 : Int) : rn 259 (57, lv, .inl x1 :: jvr b :: st, w) = jq_s (mS w b) (1, 9, 0) (jq_b (decide (jwd st ≤ 8)) (jq_c 259 60 lv st (rn 213 (0, [(0, jvr b), (1, .inl x1)], [], w)))) := q_callv (as := [.inl x1]) (rest := st) (jd_of jb_259 dX9_ran_57) jo_259 jk_9_64 rfl rfl rfl jo_213 jf_259_213 (Nat.le_of_ble_eq_true rfl)
theorem p259_60 (lv : jmL) (w : jmW) (x : Int) : rn 259 (60, lv, [.inl x], w) = some (some (.inl x), w) := q_ireturn (jd_of jb_259 dX9_ran_60) jr_259
theorem p260_0 (lv : jmL) (st : List jmV) (w : jmW) : rn 260 (0, lv, st, w) = jq_lda 260 1 lv st w (jg lv 0) := q_aload_n (jd_of jb_260 dX9_runner_0) rfl
theorem p260_1 (lv : jmL) (st : List jmV) (w : jmW) : rn 260 (1, lv, st, w) = rn 260 (2, lv, .inl (0) :: st, w) := q_iconst (jd_of jb_260 dX9_runner_1)
theorem p260_2 (lv : jmL) (st : List jmV) (w : jmW) (a : Nat) (x : Int) : rn 260 (2, lv, .inl x :: jvr a :: st, w) = jq_gs (mS w a) (1, 9, 0) 260 5 lv (st) (setI w a 0 x) := q_putf (jd_of jb_260 dX9_runner_2) jo_260 jk_9_54 (Or.inl rfl) rfl
theorem p260_5 (lv : jmL) (st : List jmV) (w : jmW) : rn 260 (5, lv, st, w) = jq_lda 260 6 lv st w (jg lv 0) := q_aload_n (jd_of jb_260 dX9_runner_5) rfl
theorem p260_6 (lv : jmL) (st : List jmV) (w : jmW) : rn 260 (6, lv, st, w) = jq_ldi 260 7 lv st w (jg lv 1) := q_iload_n (jd_of jb_260 dX9_runner_6) rfl
theorem p260_7 (lv : jmL) (st : List jmV) (w : jmW) (b : Nat) (x1 : Int) : rn 260 (7, lv, .inl x1 :: jvr b :: st, w) = jq_s (mS w b) (1, 9, 0) (jq_b (decide (jwd st ≤ 8)) (jq_c 260 10 lv st (rn 234 (0, [(0, jvr b), (1, .inl x1)], [], w)))) := q_callv (as := [.inl x1]) (rest := st) (jd_of jb_260 dX9_runner_7) jo_260 jk_9_517 rfl rfl rfl jo_234 jf_260_234 (Nat.le_of_ble_eq_true rfl)
theorem p260_10 (lv : jmL) (st : List jmV) (w : jmW) (x : Int) : rn 260 (10, lv, .inl x :: st, w) = rn 260 (11, js lv 2 (.inl x), st, w) := q_istore_n (jd_of jb_260 dX9_runner_10) rfl (by rw [jm_260]; decide)
theorem p260_11 (lv : jmL) (st : List jmV) (w : jmW) : rn 260 (11, lv, st, w) = jq_ldi 260 12 lv st w (jg lv 2) := q_iload_n (jd_of jb_260 dX9_runner_11) rfl
theorem p260_12 (lv : jmL) (st : List jmV) (w : jmW) (x : Int) : rn 260 (12, lv, .inl x :: st, w) = if 0 < jw x then rn 260 (15, lv, st, w) else rn 260 (21, lv, st, w) := q_if_le (jd_of jb_260 dX9_runner_12) (by decide)
theorem p260_15 (lv : jmL) (st : List jmV) (w : jmW) : rn 260 (15, lv, st, w) = jq_lda 260 16 lv st w (jg lv 0) := q_aload_n (jd_of jb_260 dX9_runner_15) rfl
theorem p260_16 (lv : jmL) (st : List jmV) (w : jmW) : rn 260 (16, lv, st, w) = jq_ldi 260 17 lv st w (jg lv 2) := q_iload_n (jd_of jb_260 dX9_runner_16) rfl
theorem p260_17 (lv : jmL) (st : List jmV) (w : jmW) (b : Nat) (x1 : Int) : rn 260 (17, lv, .inl x1 :: jvr b :: st, w) = jq_s (mS w b) (1, 9, 0) (jq_b (decide (jwd st ≤ 8)) (jq_c 260 20 lv st (rn 176 (0, [(0, jvr b), (1, .inl x1)], [], w)))) := q_callv (as := [.inl x1]) (rest := st) (jd_of jb_260 dX9_runner_17) jo_260 jk_9_60 rfl rfl rfl jo_176 jf_260_176 (Nat.le_of_ble_eq_true rfl)
theorem p260_20 (lv : jmL) (w : jmW) (x : Int) : rn 260 (20, lv, [.inl x], w) = some (some (.inl x), w) := q_ireturn (jd_of jb_260 dX9_runner_20) jr_260
theorem p260_21 (lv : jmL) (st : List jmV) (w : jmW) : rn 260 (21, lv, st, w) = jq_lda 260 22 lv st w (jg lv 0) := q_aload_n (jd_of jb_260 dX9_runner_21) rfl
theorem p260_22 (lv : jmL) (st : List jmV) (w : jmW) : rn 260 (22, lv, st, w) = jq_ldi 260 23 lv st w (jg lv 1) := q_iload_n (jd_of jb_260 dX9_runner_22) rfl
theorem p260_23 (lv : jmL) (st : List jmV) (w : jmW) (b : Nat) (x1 : Int) : rn 260 (23, lv, .inl x1 :: jvr b :: st, w) = jq_s (mS w b) (1, 9, 0) (jq_b (decide (jwd st ≤ 8)) (jq_c 260 26 lv st (rn 235 (0, [(0, jvr b), (1, .inl x1)], [], w)))) := q_callv (as := [.inl x1]) (rest := st) (jd_of jb_260 dX9_runner_23) jo_260 jk_9_520 rfl rfl rfl jo_235 jf_260_235 (Nat.le_of_ble_eq_true rfl)
theorem p260_26 (lv : jmL) (st : List jmV) (w : jmW) : rn 260 (26, lv, st, w) = rn 260 (27, lv, .inl (0) :: st, w) := q_iconst (jd_of jb_260 dX9_runner_26)
theorem p260_27 (lv : jmL) (st : List jmV) (w : jmW) (x : Int) : rn 260 (27, lv, .inl x :: st, w) = rn 260 (28, js lv 3 (.inl x), st, w) := q_istore_n (jd_of jb_260 dX9_runner_27) rfl (by rw [jm_260]; decide)
theorem p260_28 (lv : jmL) (st : List jmV) (w : jmW) : rn 260 (28, lv, st, w) = rn 260 (29, lv, .inl (1) :: st, w) := q_iconst (jd_of jb_260 dX9_runner_28)
theorem p260_29 (lv : jmL) (st : List jmV) (w : jmW) (x : Int) : rn 260 (29, lv, .inl x :: st, w) = rn 260 (31, js lv 4 (.inl x), st, w) := q_istore (jd_of jb_260 dX9_runner_29) (by rw [jm_260]; decide)
theorem p260_31 (lv : jmL) (st : List jmV) (w : jmW) : rn 260 (31, lv, st, w) = jq_ldi 260 33 lv st w (jg lv 4) := q_iload (jd_of jb_260 dX9_runner_31)
theorem p260_33 (lv : jmL) (st : List jmV) (w : jmW) : rn 260 (33, lv, st, w) = jq_lda 260 34 lv st w (jg lv 0) := q_aload_n (jd_of jb_260 dX9_runner_33) rfl
theorem p260_34 (lv : jmL) (st : List jmV) (w : jmW) (a : Nat) : rn 260 (34, lv, jvr a :: st, w) = jq_gs (mS w a) (1, 9, 0) 260 37 lv (.inr (.inr (mR w a 19)) :: st) (w) := q_getf (v := fun w a => .inr (.inr (mR w a 19))) (jd_of jb_260 dX9_runner_34) jo_260 jk_9_24 (fun _ _ => rfl)
theorem p260_37 (lv : jmL) (st : List jmV) (w : jmW) : rn 260 (37, lv, st, w) = rn 260 (40, lv, .inl (289) :: st, w) := q_sipush (jd_of jb_260 dX9_runner_37) (by decide +kernel)
theorem p260_40 (lv : jmL) (st : List jmV) (w : jmW) (a : Nat) (j : Int) : rn 260 (40, lv, .inl j :: jvr a :: st, w) = jq_gr (mS w a) 0 j 260 41 lv (.inl (mI w a (jix j)) :: st) (w) := q_iald (jd_of jb_260 dX9_runner_40)
theorem p260_41 (lv : jmL) (st : List jmV) (w : jmW) (x y : Int) : rn 260 (41, lv, .inl y :: .inl x :: st, w) = if jw x < jw y then rn 260 (44, lv, st, w) else rn 260 (87, lv, st, w) := q_icmp_ge (jd_of jb_260 dX9_runner_41) (by decide)
theorem p260_44 (lv : jmL) (st : List jmV) (w : jmW) : rn 260 (44, lv, st, w) = jq_lda 260 45 lv st w (jg lv 0) := q_aload_n (jd_of jb_260 dX9_runner_44) rfl
theorem p260_45 (lv : jmL) (st : List jmV) (w : jmW) (a : Nat) : rn 260 (45, lv, jvr a :: st, w) = jq_gs (mS w a) (1, 9, 0) 260 48 lv (.inr (.inr (mR w a 29)) :: st) (w) := q_getf (v := fun w a => .inr (.inr (mR w a 29))) (jd_of jb_260 dX9_runner_45) jo_260 jk_9_42 (fun _ _ => rfl)
theorem p260_48 (lv : jmL) (st : List jmV) (w : jmW) : rn 260 (48, lv, st, w) = jq_lda 260 49 lv st w (jg lv 0) := q_aload_n (jd_of jb_260 dX9_runner_48) rfl
theorem p260_49 (lv : jmL) (st : List jmV) (w : jmW) (a : Nat) : rn 260 (49, lv, jvr a :: st, w) = jq_gs (mS w a) (1, 9, 0) 260 52 lv (.inr (.inr (mR w a 19)) :: st) (w) := q_getf (v := fun w a => .inr (.inr (mR w a 19))) (jd_of jb_260 dX9_runner_49) jo_260 jk_9_24 (fun _ _ => rfl)
theorem p260_52 (lv : jmL) (st : List jmV) (w : jmW) : rn 260 (52, lv, st, w) = rn 260 (55, lv, .inl (204) :: st, w) := q_sipush (jd_of jb_260 dX9_runner_52) (by decide +kernel)
theorem p260_55 (lv : jmL) (st : List jmV) (w : jmW) : rn 260 (55, lv, st, w) = jq_ldi 260 57 lv st w (jg lv 4) := q_iload (jd_of jb_260 dX9_runner_55)
theorem p260_57 (lv : jmL) (st : List jmV) (w : jmW) (x y : Int) : rn 260 (57, lv, .inl y :: .inl x :: st, w) = rn 260 (58, lv, .inl (x + y) :: st, w) := q_iadd (jd_of jb_260 dX9_runner_57)
theorem p260_58 (lv : jmL) (st : List jmV) (w : jmW) (a : Nat) (j : Int) : rn 260 (58, lv, .inl j :: jvr a :: st, w) = jq_gr (mS w a) 0 j 260 59 lv (.inl (mI w a (jix j)) :: st) (w) := q_iald (jd_of jb_260 dX9_runner_58)
theorem p260_59 (lv : jmL) (st : List jmV) (w : jmW) (a : Nat) (j : Int) : rn 260 (59, lv, .inl j :: jvr a :: st, w) = jq_gr (mS w a) 0 j 260 60 lv (.inl (mI w a (jix j)) :: st) (w) := q_iald (jd_of jb_260 dX9_runner_59)
theorem p260_60 (lv : jmL) (st : List jmV) (w : jmW) : rn 260 (60, lv, st, w) = jq_lda 260 61 lv st w (jg lv 0) := q_aload_n (jd_of jb_260 dX9_runner_60) rfl
theorem p260_61 (lv : jmL) (st : List jmV) (w : jmW) (a : Nat) : rn 260 (61, lv, jvr a :: st, w) = jq_gs (mS w a) (1, 9, 0) 260 64 lv (.inr (.inr (mR w a 29)) :: st) (w) := q_getf (v := fun w a => .inr (.inr (mR w a 29))) (jd_of jb_260 dX9_runner_61) jo_260 jk_9_42 (fun _ _ => rfl)
theorem p260_64 (lv : jmL) (st : List jmV) (w : jmW) : rn 260 (64, lv, st, w) = jq_lda 260 65 lv st w (jg lv 0) := q_aload_n (jd_of jb_260 dX9_runner_64) rfl
theorem p260_65 (lv : jmL) (st : List jmV) (w : jmW) (a : Nat) : rn 260 (65, lv, jvr a :: st, w) = jq_gs (mS w a) (1, 9, 0) 260 68 lv (.inr (.inr (mR w a 19)) :: st) (w) := q_getf (v := fun w a => .inr (.inr (mR w a 19))) (jd_of jb_260 dX9_runner_65) jo_260 jk_9_24 (fun _ _ => rfl)
theorem p260_68 (lv : jmL) (st : List jmV) (w : jmW) : rn 260 (68, lv, st, w) = rn 260 (71, lv, .inl (204) :: st, w) := q_sipush (jd_of jb_260 dX9_runner_68) (by decide +kernel)
theorem p260_71 (lv : jmL) (st : List jmV) (w : jmW) : rn 260 (71, lv, st, w) = jq_ldi 260 72 lv st w (jg lv 3) := q_iload_n (jd_of jb_260 dX9_runner_71) rfl
theorem p260_72 (lv : jmL) (st : List jmV) (w : jmW) (x y : Int) : rn 260 (72, lv, .inl y :: .inl x :: st, w) = rn 260 (73, lv, .inl (x + y) :: st, w) := q_iadd (jd_of jb_260 dX9_runner_72)
theorem p260_73 (lv : jmL) (st : List jmV) (w : jmW) (a : Nat) (j : Int) : rn 260 (73, lv, .inl j :: jvr a :: st, w) = jq_gr (mS w a) 0 j 260 74 lv (.inl (mI w a (jix j)) :: st) (w) := q_iald (jd_of jb_260 dX9_runner_73)
theorem p260_74 (lv : jmL) (st : List jmV) (w : jmW) (a : Nat) (j : Int) : rn 260 (74, lv, .inl j :: jvr a :: st, w) = jq_gr (mS w a) 0 j 260 75 lv (.inl (mI w a (jix j)) :: st) (w) := q_iald (jd_of jb_260 dX9_runner_74)
theorem p260_75 (lv : jmL) (st : List jmV) (w : jmW) (x y : Int) : rn 260 (75, lv, .inl y :: .inl x :: st, w) = if jw y < jw x then rn 260 (78, lv, st, w) else rn 260 (81, lv, st, w) := q_icmp_le (jd_of jb_260 dX9_runner_75) (by decide)
theorem p260_78 (lv : jmL) (st : List jmV) (w : jmW) : rn 260 (78, lv, st, w) = jq_ldi 260 80 lv st w (jg lv 4) := q_iload (jd_of jb_260 dX9_runner_78)
theorem p260_80 (lv : jmL) (st : List jmV) (w : jmW) (x : Int) : rn 260 (80, lv, .inl x :: st, w) = rn 260 (81, js lv 3 (.inl x), st, w) := q_istore_n (jd_of jb_260 dX9_runner_80) rfl (by rw [jm_260]; decide)
theorem p260_81 (lv : jmL) (st : List jmV) (w : jmW) : rn 260 (81, lv, st, w) = jq_inc 260 84 lv 4 (1) st w (jg lv 4) := q_iinc (jd_of jb_260 dX9_runner_81) (by rw [jm_260]; decide)
theorem p260_84 (lv : jmL) (st : List jmV) (w : jmW) : rn 260 (84, lv, st, w) = rn 260 (31, lv, st, w) := q_goto (jd_of jb_260 dX9_runner_84) (by decide)
theorem p260_87 (lv : jmL) (st : List jmV) (w : jmW) : rn 260 (87, lv, st, w) = jq_lda 260 88 lv st w (jg lv 0) := q_aload_n (jd_of jb_260 dX9_runner_87) rfl
theorem p260_88 (lv : jmL) (st : List jmV) (w : jmW) : rn 260 (88, lv, st, w) = jq_lda 260 89 lv st w (jg lv 0) := q_aload_n (jd_of jb_260 dX9_runner_88) rfl
theorem p260_89 (lv : jmL) (st : List jmV) (w : jmW) (a : Nat) : rn 260 (89, lv, jvr a :: st, w) = jq_gs (mS w a) (1, 9, 0) 260 92 lv (.inr (.inr (mR w a 19)) :: st) (w) := q_getf (v := fun w a => .inr (.inr (mR w a 19))) (jd_of jb_260 dX9_runner_89) jo_260 jk_9_24 (fun _ _ => rfl)
theorem p260_92 (lv : jmL) (st : List jmV) (w : jmW) : rn 260 (92, lv, st, w) = rn 260 (95, lv, .inl (204) :: st, w) := q_sipush (jd_of jb_260 dX9_runner_92) (by decide +kernel)
theorem p260_95 (lv : jmL) (st : List jmV) (w : jmW) : rn 260 (95, lv, st, w) = jq_ldi 260 96 lv st w (jg lv 3) := q_iload_n (jd_of jb_260 dX9_runner_95) rfl
theorem p260_96 (lv : jmL) (st : List jmV) (w : jmW) (x y : Int) : rn 260 (96, lv, .inl y :: .inl x :: st, w) = rn 260 (97, lv, .inl (x + y) :: st, w) := q_iadd (jd_of jb_260 dX9_runner_96)
theorem p260_97 (lv : jmL) (st : List jmV) (w : jmW) (a : Nat) (j : Int) : rn 260 (97, lv, .inl j :: jvr a :: st, w) = jq_gr (mS w a) 0 j 260 98 lv (.inl (mI w a (jix j)) :: st) (w) := q_iald (jd_of jb_260 dX9_runner_97)
theorem p260_98 (lv : jmL) (st : List jmV) (w : jmW) (b : Nat) (x1 : Int) : rn 260 (98, lv, .inl x1 :: jvr b :: st, w) = jq_s (mS w b) (1, 9, 0) (jq_b (decide (jwd st ≤ 8)) (jq_c 260 101 lv st (rn 213 (0, [(0, jvr b), (1, .inl x1)], [], w)))) := q_callv (as := [.inl x1]) (rest := st) (jd_of jb_260 dX9_runner_98) jo_260 jk_9_64 rfl rfl rfl jo_213 jf_260_213 (Nat.le_of_ble_eq_true rfl)
theorem p260_101 (lv : jmL) (w : jmW) (x : Int) : rn 260 (101, lv, [.inl x], w) = some (some (.inl x), w) := q_ireturn (jd_of jb_260 dX9_runner_101) jr_260
theorem p261_0 (lv : jmL) (st : List jmV) (w : jmW) : rn 261 (0, lv, st, w) = jq_lda 261 1 lv st w (jg lv 0) := q_aload_n (jd_of jb_261 dX9_widest_0) rfl
theorem p261_1 (lv : jmL) (st : List jmV) (w : jmW) : rn 261 (1, lv, st, w) = rn 261 (2, lv, .inl (0) :: st, w) := q_iconst (jd_of jb_261 dX9_widest_1)
theorem p261_2 (lv : jmL) (st : List jmV) (w : jmW) (a : Nat) (x : Int) : rn 261 (2, lv, .inl x :: jvr a :: st, w) = jq_gs (mS w a) (1, 9, 0) 261 5 lv (st) (setI w a 0 x) := q_putf (jd_of jb_261 dX9_widest_2) jo_261 jk_9_54 (Or.inl rfl) rfl
theorem p261_5 (lv : jmL) (st : List jmV) (w : jmW) : rn 261 (5, lv, st, w) = jq_lda 261 6 lv st w (jg lv 0) := q_aload_n (jd_of jb_261 dX9_widest_5) rfl
theorem p261_6 (lv : jmL) (st : List jmV) (w : jmW) : rn 261 (6, lv, st, w) = jq_ldi 261 7 lv st w (jg lv 1) := q_iload_n (jd_of jb_261 dX9_widest_6) rfl
theorem p261_7 (lv : jmL) (st : List jmV) (w : jmW) (b : Nat) (x1 : Int) : rn 261 (7, lv, .inl x1 :: jvr b :: st, w) = jq_s (mS w b) (1, 9, 0) (jq_b (decide (jwd st ≤ 8)) (jq_c 261 10 lv st (rn 234 (0, [(0, jvr b), (1, .inl x1)], [], w)))) := q_callv (as := [.inl x1]) (rest := st) (jd_of jb_261 dX9_widest_7) jo_261 jk_9_517 rfl rfl rfl jo_234 jf_261_234 (Nat.le_of_ble_eq_true rfl)
theorem p261_10 (lv : jmL) (st : List jmV) (w : jmW) (x : Int) : rn 261 (10, lv, .inl x :: st, w) = rn 261 (11, js lv 2 (.inl x), st, w) := q_istore_n (jd_of jb_261 dX9_widest_10) rfl (by rw [jm_261]; decide)
theorem p261_11 (lv : jmL) (st : List jmV) (w : jmW) : rn 261 (11, lv, st, w) = jq_ldi 261 12 lv st w (jg lv 2) := q_iload_n (jd_of jb_261 dX9_widest_11) rfl
theorem p261_12 (lv : jmL) (st : List jmV) (w : jmW) (x : Int) : rn 261 (12, lv, .inl x :: st, w) = if 0 < jw x then rn 261 (15, lv, st, w) else rn 261 (21, lv, st, w) := q_if_le (jd_of jb_261 dX9_widest_12) (by decide)
theorem p261_15 (lv : jmL) (st : List jmV) (w : jmW) : rn 261 (15, lv, st, w) = jq_lda 261 16 lv st w (jg lv 0) := q_aload_n (jd_of jb_261 dX9_widest_15) rfl
theorem p261_16 (lv : jmL) (st : List jmV) (w : jmW) : rn 261 (16, lv, st, w) = jq_ldi 261 17 lv st w (jg lv 2) := q_iload_n (jd_of jb_261 dX9_widest_16) rfl
theorem p261_17 (lv : jmL) (st : List jmV) (w : jmW) (b : Nat) (x1 : Int) : rn 261 (17, lv, .inl x1 :: jvr b :: st, w) = jq_s (mS w b) (1, 9, 0) (jq_b (decide (jwd st ≤ 8)) (jq_c 261 20 lv st (rn 176 (0, [(0, jvr b), (1, .inl x1)], [], w)))) := q_callv (as := [.inl x1]) (rest := st) (jd_of jb_261 dX9_widest_17) jo_261 jk_9_60 rfl rfl rfl jo_176 jf_261_176 (Nat.le_of_ble_eq_true rfl)
theorem p261_20 (lv : jmL) (w : jmW) (x : Int) : rn 261 (20, lv, [.inl x], w) = some (some (.inl x), w) := q_ireturn (jd_of jb_261 dX9_widest_20) jr_261
theorem p261_21 (lv : jmL) (st : List jmV) (w : jmW) : rn 261 (21, lv, st, w) = jq_lda 261 22 lv st w (jg lv 0) := q_aload_n (jd_of jb_261 dX9_widest_21) rfl
theorem p261_22 (lv : jmL) (st : List jmV) (w : jmW) : rn 261 (22, lv, st, w) = jq_ldi 261 23 lv st w (jg lv 1) := q_iload_n (jd_of jb_261 dX9_widest_22) rfl
theorem p261_23 (lv : jmL) (st : List jmV) (w : jmW) (b : Nat) (x1 : Int) : rn 261 (23, lv, .inl x1 :: jvr b :: st, w) = jq_s (mS w b) (1, 9, 0) (jq_b (decide (jwd st ≤ 8)) (jq_c 261 26 lv st (rn 235 (0, [(0, jvr b), (1, .inl x1)], [], w)))) := q_callv (as := [.inl x1]) (rest := st) (jd_of jb_261 dX9_widest_23) jo_261 jk_9_520 rfl rfl rfl jo_235 jf_261_235 (Nat.le_of_ble_eq_true rfl)
theorem p261_26 (lv : jmL) (st : List jmV) (w : jmW) : rn 261 (26, lv, st, w) = rn 261 (28, lv, .inl (-2) :: st, w) := q_bipush (jd_of jb_261 dX9_widest_26) (by decide +kernel)
theorem p261_28 (lv : jmL) (st : List jmV) (w : jmW) (x : Int) : rn 261 (28, lv, .inl x :: st, w) = rn 261 (29, js lv 3 (.inl x), st, w) := q_istore_n (jd_of jb_261 dX9_widest_28) rfl (by rw [jm_261]; decide)
theorem p261_29 (lv : jmL) (st : List jmV) (w : jmW) : rn 261 (29, lv, st, w) = rn 261 (30, lv, .inl (1) :: st, w) := q_iconst (jd_of jb_261 dX9_widest_29)
theorem p261_30 (lv : jmL) (st : List jmV) (w : jmW) (x : Int) : rn 261 (30, lv, .inl x :: st, w) = rn 261 (32, js lv 4 (.inl x), st, w) := q_istore (jd_of jb_261 dX9_widest_30) (by rw [jm_261]; decide)
theorem p261_32 (lv : jmL) (st : List jmV) (w : jmW) : rn 261 (32, lv, st, w) = jq_ldi 261 34 lv st w (jg lv 4) := q_iload (jd_of jb_261 dX9_widest_32)
theorem p261_34 (lv : jmL) (st : List jmV) (w : jmW) : rn 261 (34, lv, st, w) = jq_lda 261 35 lv st w (jg lv 0) := q_aload_n (jd_of jb_261 dX9_widest_34) rfl
theorem p261_35 (lv : jmL) (st : List jmV) (w : jmW) (a : Nat) : rn 261 (35, lv, jvr a :: st, w) = jq_gs (mS w a) (1, 9, 0) 261 38 lv (.inr (.inr (mR w a 19)) :: st) (w) := q_getf (v := fun w a => .inr (.inr (mR w a 19))) (jd_of jb_261 dX9_widest_35) jo_261 jk_9_24 (fun _ _ => rfl)
theorem p261_38 (lv : jmL) (st : List jmV) (w : jmW) : rn 261 (38, lv, st, w) = rn 261 (41, lv, .inl (289) :: st, w) := q_sipush (jd_of jb_261 dX9_widest_38) (by decide +kernel)
theorem p261_41 (lv : jmL) (st : List jmV) (w : jmW) (a : Nat) (j : Int) : rn 261 (41, lv, .inl j :: jvr a :: st, w) = jq_gr (mS w a) 0 j 261 42 lv (.inl (mI w a (jix j)) :: st) (w) := q_iald (jd_of jb_261 dX9_widest_41)
theorem p261_42 (lv : jmL) (st : List jmV) (w : jmW) (x y : Int) : rn 261 (42, lv, .inl y :: .inl x :: st, w) = if jw x < jw y then rn 261 (45, lv, st, w) else rn 261 (78, lv, st, w) := q_icmp_ge (jd_of jb_261 dX9_widest_42) (by decide)
theorem p261_45 (lv : jmL) (st : List jmV) (w : jmW) : rn 261 (45, lv, st, w) = jq_lda 261 46 lv st w (jg lv 0) := q_aload_n (jd_of jb_261 dX9_widest_45) rfl
theorem p261_46 (lv : jmL) (st : List jmV) (w : jmW) (a : Nat) : rn 261 (46, lv, jvr a :: st, w) = jq_gs (mS w a) (1, 9, 0) 261 49 lv (.inr (.inr (mR w a 19)) :: st) (w) := q_getf (v := fun w a => .inr (.inr (mR w a 19))) (jd_of jb_261 dX9_widest_46) jo_261 jk_9_24 (fun _ _ => rfl)
theorem p261_49 (lv : jmL) (st : List jmV) (w : jmW) : rn 261 (49, lv, st, w) = jq_ldi 261 51 lv st w (jg lv 4) := q_iload (jd_of jb_261 dX9_widest_49)
theorem p261_51 (lv : jmL) (st : List jmV) (w : jmW) (x1 : Option Nat) (x2 : Int) : rn 261 (51, lv, .inl x2 :: .inr (.inr x1) :: st, w) = jq_b (decide (jwd st ≤ 8)) (jq_c 261 54 lv st (rn 222 (0, [(0, .inr (.inr x1)), (1, .inl x2)], [], w))) := q_calls (as := [.inr (.inr x1), .inl x2]) (rest := st) (jd_of jb_261 dX9_widest_51) jo_261 jk_9_458 rfl rfl rfl jf_261_222 (Nat.le_of_ble_eq_true rfl)
theorem p261_54 (lv : jmL) (st : List jmV) (w : jmW) : rn 261 (54, lv, st, w) = jq_ldi 261 55 lv st w (jg lv 3) := q_iload_n (jd_of jb_261 dX9_widest_54) rfl
theorem p261_55 (lv : jmL) (st : List jmV) (w : jmW) (x y : Int) : rn 261 (55, lv, .inl y :: .inl x :: st, w) = if jw y < jw x then rn 261 (58, lv, st, w) else rn 261 (70, lv, st, w) := q_icmp_le (jd_of jb_261 dX9_widest_55) (by decide)
theorem p261_58 (lv : jmL) (st : List jmV) (w : jmW) : rn 261 (58, lv, st, w) = jq_lda 261 59 lv st w (jg lv 0) := q_aload_n (jd_of jb_261 dX9_widest_58) rfl
theorem p261_59 (lv : jmL) (st : List jmV) (w : jmW) (a : Nat) : rn 261 (59, lv, jvr a :: st, w) = jq_gs (mS w a) (1, 9, 0) 261 62 lv (.inr (.inr (mR w a 19)) :: st) (w) := q_getf (v := fun w a => .inr (.inr (mR w a 19))) (jd_of jb_261 dX9_widest_59) jo_261 jk_9_24 (fun _ _ => rfl)
theorem p261_62 (lv : jmL) (st : List jmV) (w : jmW) : rn 261 (62, lv, st, w) = jq_ldi 261 64 lv st w (jg lv 4) := q_iload (jd_of jb_261 dX9_widest_62)
theorem p261_64 (lv : jmL) (st : List jmV) (w : jmW) (x1 : Option Nat) (x2 : Int) : rn 261 (64, lv, .inl x2 :: .inr (.inr x1) :: st, w) = jq_b (decide (jwd st ≤ 8)) (jq_c 261 67 lv st (rn 222 (0, [(0, .inr (.inr x1)), (1, .inl x2)], [], w))) := q_calls (as := [.inr (.inr x1), .inl x2]) (rest := st) (jd_of jb_261 dX9_widest_64) jo_261 jk_9_458 rfl rfl rfl jf_261_222 (Nat.le_of_ble_eq_true rfl)
theorem p261_67 (lv : jmL) (st : List jmV) (w : jmW) : rn 261 (67, lv, st, w) = rn 261 (71, lv, st, w) := q_goto (jd_of jb_261 dX9_widest_67) (by decide)
theorem p261_70 (lv : jmL) (st : List jmV) (w : jmW) : rn 261 (70, lv, st, w) = jq_ldi 261 71 lv st w (jg lv 3) := q_iload_n (jd_of jb_261 dX9_widest_70) rfl
theorem p261_71 (lv : jmL) (st : List jmV) (w : jmW) (x : Int) : rn 261 (71, lv, .inl x :: st, w) = rn 261 (72, js lv 3 (.inl x), st, w) := q_istore_n (jd_of jb_261 dX9_widest_71) rfl (by rw [jm_261]; decide)
theorem p261_72 (lv : jmL) (st : List jmV) (w : jmW) : rn 261 (72, lv, st, w) = jq_inc 261 75 lv 4 (1) st w (jg lv 4) := q_iinc (jd_of jb_261 dX9_widest_72) (by rw [jm_261]; decide)
theorem p261_75 (lv : jmL) (st : List jmV) (w : jmW) : rn 261 (75, lv, st, w) = rn 261 (32, lv, st, w) := q_goto (jd_of jb_261 dX9_widest_75) (by decide)
theorem p261_78 (lv : jmL) (st : List jmV) (w : jmW) : rn 261 (78, lv, st, w) = jq_lda 261 79 lv st w (jg lv 0) := q_aload_n (jd_of jb_261 dX9_widest_78) rfl
theorem p261_79 (lv : jmL) (st : List jmV) (w : jmW) : rn 261 (79, lv, st, w) = jq_ldi 261 80 lv st w (jg lv 3) := q_iload_n (jd_of jb_261 dX9_widest_79) rfl
theorem p261_80 (lv : jmL) (st : List jmV) (w : jmW) (b : Nat) (x1 : Int) : rn 261 (80, lv, .inl x1 :: jvr b :: st, w) = jq_s (mS w b) (1, 9, 0) (jq_b (decide (jwd st ≤ 8)) (jq_c 261 83 lv st (rn 213 (0, [(0, jvr b), (1, .inl x1)], [], w)))) := q_callv (as := [.inl x1]) (rest := st) (jd_of jb_261 dX9_widest_80) jo_261 jk_9_64 rfl rfl rfl jo_213 jf_261_213 (Nat.le_of_ble_eq_true rfl)
theorem p261_83 (lv : jmL) (w : jmW) (x : Int) : rn 261 (83, lv, [.inl x], w) = some (some (.inl x), w) := q_ireturn (jd_of jb_261 dX9_widest_83) jr_261
theorem p262_0 (lv : jmL) (st : List jmV) (w : jmW) : rn 262 (0, lv, st, w) = jq_lda 262 1 lv st w (jg lv 0) := q_aload_n (jd_of jb_262 dX9_torn_0) rfl
theorem p262_1 (lv : jmL) (st : List jmV) (w : jmW) : rn 262 (1, lv, st, w) = rn 262 (2, lv, .inl (0) :: st, w) := q_iconst (jd_of jb_262 dX9_torn_1)
theorem p262_2 (lv : jmL) (st : List jmV) (w : jmW) (a : Nat) (x : Int) : rn 262 (2, lv, .inl x :: jvr a :: st, w) = jq_gs (mS w a) (1, 9, 0) 262 5 lv (st) (setI w a 0 x) := q_putf (jd_of jb_262 dX9_torn_2) jo_262 jk_9_54 (Or.inl rfl) rfl
theorem p262_5 (lv : jmL) (st : List jmV) (w : jmW) : rn 262 (5, lv, st, w) = jq_lda 262 6 lv st w (jg lv 0) := q_aload_n (jd_of jb_262 dX9_torn_5) rfl
theorem p262_6 (lv : jmL) (st : List jmV) (w : jmW) : rn 262 (6, lv, st, w) = jq_ldi 262 7 lv st w (jg lv 1) := q_iload_n (jd_of jb_262 dX9_torn_6) rfl
theorem p262_7 (lv : jmL) (st : List jmV) (w : jmW) (b : Nat) (x1 : Int) : rn 262 (7, lv, .inl x1 :: jvr b :: st, w) = jq_s (mS w b) (1, 9, 0) (jq_b (decide (jwd st ≤ 8)) (jq_c 262 10 lv st (rn 234 (0, [(0, jvr b), (1, .inl x1)], [], w)))) := q_callv (as := [.inl x1]) (rest := st) (jd_of jb_262 dX9_torn_7) jo_262 jk_9_517 rfl rfl rfl jo_234 jf_262_234 (Nat.le_of_ble_eq_true rfl)
theorem p262_10 (lv : jmL) (st : List jmV) (w : jmW) (x : Int) : rn 262 (10, lv, .inl x :: st, w) = rn 262 (11, js lv 2 (.inl x), st, w) := q_istore_n (jd_of jb_262 dX9_torn_10) rfl (by rw [jm_262]; decide)
theorem p262_11 (lv : jmL) (st : List jmV) (w : jmW) : rn 262 (11, lv, st, w) = jq_ldi 262 12 lv st w (jg lv 2) := q_iload_n (jd_of jb_262 dX9_torn_11) rfl
theorem p262_12 (lv : jmL) (st : List jmV) (w : jmW) (x : Int) : rn 262 (12, lv, .inl x :: st, w) = if 0 < jw x then rn 262 (15, lv, st, w) else rn 262 (23, lv, st, w) := q_if_le (jd_of jb_262 dX9_torn_12) (by decide)
theorem p262_15 (lv : jmL) (st : List jmV) (w : jmW) : rn 262 (15, lv, st, w) = jq_lda 262 16 lv st w (jg lv 0) := q_aload_n (jd_of jb_262 dX9_torn_15) rfl
theorem p262_16 (lv : jmL) (st : List jmV) (w : jmW) : rn 262 (16, lv, st, w) = jq_ldi 262 17 lv st w (jg lv 2) := q_iload_n (jd_of jb_262 dX9_torn_16) rfl
theorem p262_17 (lv : jmL) (st : List jmV) (w : jmW) (b : Nat) (x1 : Int) : rn 262 (17, lv, .inl x1 :: jvr b :: st, w) = jq_s (mS w b) (1, 9, 0) (jq_b (decide (jwd st ≤ 8)) (jq_c 262 20 lv st (rn 176 (0, [(0, jvr b), (1, .inl x1)], [], w)))) := q_callv (as := [.inl x1]) (rest := st) (jd_of jb_262 dX9_torn_17) jo_262 jk_9_60 rfl rfl rfl jo_176 jf_262_176 (Nat.le_of_ble_eq_true rfl)
theorem p262_20 (lv : jmL) (st : List jmV) (w : jmW) : rn 262 (20, lv, st, w) = rn 262 (32, lv, st, w) := q_goto (jd_of jb_262 dX9_torn_20) (by decide)
theorem p262_23 (lv : jmL) (st : List jmV) (w : jmW) : rn 262 (23, lv, st, w) = jq_lda 262 24 lv st w (jg lv 0) := q_aload_n (jd_of jb_262 dX9_torn_23) rfl
theorem p262_24 (lv : jmL) (st : List jmV) (w : jmW) : rn 262 (24, lv, st, w) = jq_lda 262 25 lv st w (jg lv 0) := q_aload_n (jd_of jb_262 dX9_torn_24) rfl
theorem p262_25 (lv : jmL) (st : List jmV) (w : jmW) : rn 262 (25, lv, st, w) = jq_ldi 262 26 lv st w (jg lv 1) := q_iload_n (jd_of jb_262 dX9_torn_25) rfl
theorem p262_26 (lv : jmL) (st : List jmV) (w : jmW) (b : Nat) (x1 : Int) : rn 262 (26, lv, .inl x1 :: jvr b :: st, w) = jq_s (mS w b) (1, 9, 0) (jq_b (decide (jwd st ≤ 8)) (jq_c 262 29 lv st (rn 263 (0, [(0, jvr b), (1, .inl x1)], [], w)))) := q_callv (as := [.inl x1]) (rest := st) (jd_of jb_262 dX9_torn_26) jo_262 jk_9_529 rfl rfl rfl jo_263 jf_262_263 (Nat.le_of_ble_eq_true rfl)
theorem p262_29 (lv : jmL) (st : List jmV) (w : jmW) (b : Nat) (x1 : Int) : rn 262 (29, lv, .inl x1 :: jvr b :: st, w) = jq_s (mS w b) (1, 9, 0) (jq_b (decide (jwd st ≤ 8)) (jq_c 262 32 lv st (rn 213 (0, [(0, jvr b), (1, .inl x1)], [], w)))) := q_callv (as := [.inl x1]) (rest := st) (jd_of jb_262 dX9_torn_29) jo_262 jk_9_64 rfl rfl rfl jo_213 jf_262_213 (Nat.le_of_ble_eq_true rfl)
theorem p262_32 (lv : jmL) (w : jmW) (x : Int) : rn 262 (32, lv, [.inl x], w) = some (some (.inl x), w) := q_ireturn (jd_of jb_262 dX9_torn_32) jr_262
theorem p263_0 (lv : jmL) (st : List jmV) (w : jmW) : rn 263 (0, lv, st, w) = jq_lda 263 1 lv st w (jg lv 0) := q_aload_n (jd_of jb_263 dX9_tornIn_0) rfl
theorem p263_1 (lv : jmL) (st : List jmV) (w : jmW) (b : Nat) : rn 263 (1, lv, jvr b :: st, w) = jq_s (mS w b) (1, 9, 0) (jq_b (decide (jwd st ≤ 8)) (jq_c 263 4 lv st (rn 236 (0, [(0, jvr b)], [], w)))) := q_callv (as := []) (rest := st) (jd_of jb_263 dX9_tornIn_1) jo_263 jk_9_498 rfl rfl rfl jo_236 jf_263_236 (Nat.le_of_ble_eq_true rfl)
theorem p263_4 (lv : jmL) (st : List jmV) (w : jmW) : rn 263 (4, lv, st, w) = jq_lda 263 5 lv st w (jg lv 0) := q_aload_n (jd_of jb_263 dX9_tornIn_4) rfl
theorem p263_5 (lv : jmL) (st : List jmV) (w : jmW) (b : Nat) : rn 263 (5, lv, jvr b :: st, w) = jq_s (mS w b) (1, 9, 0) (jq_b (decide (jwd st ≤ 8)) (jq_c 263 8 lv st (rn 237 (0, [(0, jvr b)], [], w)))) := q_callv (as := []) (rest := st) (jd_of jb_263 dX9_tornIn_5) jo_263 jk_9_501 rfl rfl rfl jo_237 jf_263_237 (Nat.le_of_ble_eq_true rfl)
theorem p263_8 (lv : jmL) (st : List jmV) (w : jmW) : rn 263 (8, lv, st, w) = rn 263 (9, lv, .inl (0) :: st, w) := q_iconst (jd_of jb_263 dX9_tornIn_8)
theorem p263_9 (lv : jmL) (st : List jmV) (w : jmW) (x : Int) : rn 263 (9, lv, .inl x :: st, w) = rn 263 (10, js lv 2 (.inl x), st, w) := q_istore_n (jd_of jb_263 dX9_tornIn_9) rfl (by rw [jm_263]; decide)
theorem p263_10 (lv : jmL) (st : List jmV) (w : jmW) : rn 263 (10, lv, st, w) = jq_ldi 263 11 lv st w (jg lv 2) := q_iload_n (jd_of jb_263 dX9_tornIn_10) rfl
theorem p263_11 (lv : jmL) (st : List jmV) (w : jmW) : rn 263 (11, lv, st, w) = jq_ldi 263 12 lv st w (jg lv 1) := q_iload_n (jd_of jb_263 dX9_tornIn_11) rfl
theorem p263_12 (lv : jmL) (st : List jmV) (w : jmW) (x y : Int) : rn 263 (12, lv, .inl y :: .inl x :: st, w) = if jw x < jw y then rn 263 (15, lv, st, w) else rn 263 (48, lv, st, w) := q_icmp_ge (jd_of jb_263 dX9_tornIn_12) (by decide)
theorem p263_15 (lv : jmL) (st : List jmV) (w : jmW) : rn 263 (15, lv, st, w) = jq_lda 263 16 lv st w (jg lv 0) := q_aload_n (jd_of jb_263 dX9_tornIn_15) rfl
theorem p263_16 (lv : jmL) (st : List jmV) (w : jmW) : rn 263 (16, lv, st, w) = jq_lda 263 17 lv st w (jg lv 0) := q_aload_n (jd_of jb_263 dX9_tornIn_16) rfl
theorem p263_17 (lv : jmL) (st : List jmV) (w : jmW) (a : Nat) : rn 263 (17, lv, jvr a :: st, w) = jq_gs (mS w a) (1, 9, 0) 263 20 lv (.inr (.inr (mR w a 19)) :: st) (w) := q_getf (v := fun w a => .inr (.inr (mR w a 19))) (jd_of jb_263 dX9_tornIn_17) jo_263 jk_9_24 (fun _ _ => rfl)
theorem p263_20 (lv : jmL) (st : List jmV) (w : jmW) : rn 263 (20, lv, st, w) = rn 263 (21, lv, .inl (0) :: st, w) := q_iconst (jd_of jb_263 dX9_tornIn_20)
theorem p263_21 (lv : jmL) (st : List jmV) (w : jmW) (b : Nat) (x1 : Option Nat) (x2 : Int) : rn 263 (21, lv, .inl x2 :: .inr (.inr x1) :: jvr b :: st, w) = jq_s (mS w b) (1, 9, 0) (jq_b (decide (jwd st ≤ 8)) (jq_c 263 24 lv st (rn 238 (0, [(0, jvr b), (1, .inr (.inr x1)), (2, .inl x2)], [], w)))) := q_callv (as := [.inr (.inr x1), .inl x2]) (rest := st) (jd_of jb_263 dX9_tornIn_21) jo_263 jk_9_504 rfl rfl rfl jo_238 jf_263_238 (Nat.le_of_ble_eq_true rfl)
theorem p263_24 (lv : jmL) (st : List jmV) (w : jmW) : rn 263 (24, lv, st, w) = jq_lda 263 25 lv st w (jg lv 0) := q_aload_n (jd_of jb_263 dX9_tornIn_24) rfl
theorem p263_25 (lv : jmL) (st : List jmV) (w : jmW) : rn 263 (25, lv, st, w) = jq_lda 263 26 lv st w (jg lv 0) := q_aload_n (jd_of jb_263 dX9_tornIn_25) rfl
theorem p263_26 (lv : jmL) (st : List jmV) (w : jmW) (a : Nat) : rn 263 (26, lv, jvr a :: st, w) = jq_gs (mS w a) (1, 9, 0) 263 29 lv (.inl (mI w a 30) :: st) (w) := q_getf (v := fun w a => .inl (mI w a 30)) (jd_of jb_263 dX9_tornIn_26) jo_263 jk_9_474 (fun _ _ => rfl)
theorem p263_29 (lv : jmL) (st : List jmV) (w : jmW) (a : Nat) (x : Int) : rn 263 (29, lv, .inl x :: jvr a :: st, w) = jq_gs (mS w a) (1, 9, 0) 263 32 lv (st) (setI w a 33 x) := q_putf (jd_of jb_263 dX9_tornIn_29) jo_263 jk_9_526 (Or.inl rfl) rfl
theorem p263_32 (lv : jmL) (st : List jmV) (w : jmW) : rn 263 (32, lv, st, w) = jq_lda 263 33 lv st w (jg lv 0) := q_aload_n (jd_of jb_263 dX9_tornIn_32) rfl
theorem p263_33 (lv : jmL) (st : List jmV) (w : jmW) (a : Nat) : rn 263 (33, lv, jvr a :: st, w) = jq_gs (mS w a) (1, 9, 0) 263 36 lv (.inl (mI w a 30) :: st) (w) := q_getf (v := fun w a => .inl (mI w a 30)) (jd_of jb_263 dX9_tornIn_33) jo_263 jk_9_474 (fun _ _ => rfl)
theorem p263_36 (lv : jmL) (st : List jmV) (w : jmW) : rn 263 (36, lv, st, w) = rn 263 (37, lv, .inl (-1) :: st, w) := q_iconst (jd_of jb_263 dX9_tornIn_36)
theorem p263_37 (lv : jmL) (st : List jmV) (w : jmW) (x y : Int) : rn 263 (37, lv, .inl y :: .inl x :: st, w) = if jw x = jw y then rn 263 (42, lv, st, w) else rn 263 (40, lv, st, w) := q_icmp_eq (jd_of jb_263 dX9_tornIn_37) (by decide)
theorem p263_40 (lv : jmL) (st : List jmV) (w : jmW) : rn 263 (40, lv, st, w) = jq_ldi 263 41 lv st w (jg lv 2) := q_iload_n (jd_of jb_263 dX9_tornIn_40) rfl
theorem p263_41 (lv : jmL) (w : jmW) (x : Int) : rn 263 (41, lv, [.inl x], w) = some (some (.inl x), w) := q_ireturn (jd_of jb_263 dX9_tornIn_41) jr_263
theorem p263_42 (lv : jmL) (st : List jmV) (w : jmW) : rn 263 (42, lv, st, w) = jq_inc 263 45 lv 2 (1) st w (jg lv 2) := q_iinc (jd_of jb_263 dX9_tornIn_42) (by rw [jm_263]; decide)
theorem p263_45 (lv : jmL) (st : List jmV) (w : jmW) : rn 263 (45, lv, st, w) = rn 263 (10, lv, st, w) := q_goto (jd_of jb_263 dX9_tornIn_45) (by decide)
theorem p263_48 (lv : jmL) (st : List jmV) (w : jmW) : rn 263 (48, lv, st, w) = rn 263 (50, lv, .inl (-2) :: st, w) := q_bipush (jd_of jb_263 dX9_tornIn_48) (by decide +kernel)
theorem p263_50 (lv : jmL) (w : jmW) (x : Int) : rn 263 (50, lv, [.inl x], w) = some (some (.inl x), w) := q_ireturn (jd_of jb_263 dX9_tornIn_50) jr_263
theorem p264_0 (lv : jmL) (st : List jmV) (w : jmW) : rn 264 (0, lv, st, w) = jq_lda 264 1 lv st w (jg lv 0) := q_aload_n (jd_of jb_264 dX9_tornBy_0) rfl
theorem p264_1 (lv : jmL) (st : List jmV) (w : jmW) : rn 264 (1, lv, st, w) = rn 264 (2, lv, .inl (0) :: st, w) := q_iconst (jd_of jb_264 dX9_tornBy_1)
theorem p264_2 (lv : jmL) (st : List jmV) (w : jmW) (a : Nat) (x : Int) : rn 264 (2, lv, .inl x :: jvr a :: st, w) = jq_gs (mS w a) (1, 9, 0) 264 5 lv (st) (setI w a 0 x) := q_putf (jd_of jb_264 dX9_tornBy_2) jo_264 jk_9_54 (Or.inl rfl) rfl
theorem p264_5 (lv : jmL) (st : List jmV) (w : jmW) : rn 264 (5, lv, st, w) = jq_lda 264 6 lv st w (jg lv 0) := q_aload_n (jd_of jb_264 dX9_tornBy_5) rfl
theorem p264_6 (lv : jmL) (st : List jmV) (w : jmW) : rn 264 (6, lv, st, w) = jq_ldi 264 7 lv st w (jg lv 1) := q_iload_n (jd_of jb_264 dX9_tornBy_6) rfl
theorem p264_7 (lv : jmL) (st : List jmV) (w : jmW) (b : Nat) (x1 : Int) : rn 264 (7, lv, .inl x1 :: jvr b :: st, w) = jq_s (mS w b) (1, 9, 0) (jq_b (decide (jwd st ≤ 8)) (jq_c 264 10 lv st (rn 234 (0, [(0, jvr b), (1, .inl x1)], [], w)))) := q_callv (as := [.inl x1]) (rest := st) (jd_of jb_264 dX9_tornBy_7) jo_264 jk_9_517 rfl rfl rfl jo_234 jf_264_234 (Nat.le_of_ble_eq_true rfl)
theorem p264_10 (lv : jmL) (st : List jmV) (w : jmW) (x : Int) : rn 264 (10, lv, .inl x :: st, w) = rn 264 (11, js lv 2 (.inl x), st, w) := q_istore_n (jd_of jb_264 dX9_tornBy_10) rfl (by rw [jm_264]; decide)
theorem p264_11 (lv : jmL) (st : List jmV) (w : jmW) : rn 264 (11, lv, st, w) = jq_ldi 264 12 lv st w (jg lv 2) := q_iload_n (jd_of jb_264 dX9_tornBy_11) rfl
theorem p264_12 (lv : jmL) (st : List jmV) (w : jmW) (x : Int) : rn 264 (12, lv, .inl x :: st, w) = if 0 < jw x then rn 264 (15, lv, st, w) else rn 264 (21, lv, st, w) := q_if_le (jd_of jb_264 dX9_tornBy_12) (by decide)
theorem p264_15 (lv : jmL) (st : List jmV) (w : jmW) : rn 264 (15, lv, st, w) = jq_lda 264 16 lv st w (jg lv 0) := q_aload_n (jd_of jb_264 dX9_tornBy_15) rfl
theorem p264_16 (lv : jmL) (st : List jmV) (w : jmW) : rn 264 (16, lv, st, w) = jq_ldi 264 17 lv st w (jg lv 2) := q_iload_n (jd_of jb_264 dX9_tornBy_16) rfl
theorem p264_17 (lv : jmL) (st : List jmV) (w : jmW) (b : Nat) (x1 : Int) : rn 264 (17, lv, .inl x1 :: jvr b :: st, w) = jq_s (mS w b) (1, 9, 0) (jq_b (decide (jwd st ≤ 8)) (jq_c 264 20 lv st (rn 176 (0, [(0, jvr b), (1, .inl x1)], [], w)))) := q_callv (as := [.inl x1]) (rest := st) (jd_of jb_264 dX9_tornBy_17) jo_264 jk_9_60 rfl rfl rfl jo_176 jf_264_176 (Nat.le_of_ble_eq_true rfl)
theorem p264_20 (lv : jmL) (w : jmW) (x : Int) : rn 264 (20, lv, [.inl x], w) = some (some (.inl x), w) := q_ireturn (jd_of jb_264 dX9_tornBy_20) jr_264
theorem p264_21 (lv : jmL) (st : List jmV) (w : jmW) : rn 264 (21, lv, st, w) = jq_lda 264 22 lv st w (jg lv 0) := q_aload_n (jd_of jb_264 dX9_tornBy_21) rfl
theorem p264_22 (lv : jmL) (st : List jmV) (w : jmW) : rn 264 (22, lv, st, w) = jq_ldi 264 23 lv st w (jg lv 1) := q_iload_n (jd_of jb_264 dX9_tornBy_22) rfl
theorem p264_23 (lv : jmL) (st : List jmV) (w : jmW) (b : Nat) (x1 : Int) : rn 264 (23, lv, .inl x1 :: jvr b :: st, w) = jq_s (mS w b) (1, 9, 0) (jq_b (decide (jwd st ≤ 8)) (jq_c 264 26 lv st (rn 263 (0, [(0, jvr b), (1, .inl x1)], [], w)))) := q_callv (as := [.inl x1]) (rest := st) (jd_of jb_264 dX9_tornBy_23) jo_264 jk_9_529 rfl rfl rfl jo_263 jf_264_263 (Nat.le_of_ble_eq_true rfl)
theorem p264_26 (lv : jmL) (st : List jmV) (w : jmW) : rn 264 (26, lv, st, w) = rn 264 (28, lv, .inl (-2) :: st, w) := q_bipush (jd_of jb_264 dX9_tornBy_26) (by decide +kernel)
theorem p264_28 (lv : jmL) (st : List jmV) (w : jmW) (x y : Int) : rn 264 (28, lv, .inl y :: .inl x :: st, w) = if jw x = jw y then rn 264 (31, lv, st, w) else rn 264 (40, lv, st, w) := q_icmp_ne (jd_of jb_264 dX9_tornBy_28) (by decide)
theorem p264_31 (lv : jmL) (st : List jmV) (w : jmW) : rn 264 (31, lv, st, w) = jq_lda 264 32 lv st w (jg lv 0) := q_aload_n (jd_of jb_264 dX9_tornBy_31) rfl
theorem p264_32 (lv : jmL) (st : List jmV) (w : jmW) : rn 264 (32, lv, st, w) = rn 264 (34, lv, .inl (6) :: st, w) := q_bipush (jd_of jb_264 dX9_tornBy_32) (by decide +kernel)
theorem p264_34 (lv : jmL) (st : List jmV) (w : jmW) (b : Nat) (x1 : Int) : rn 264 (34, lv, .inl x1 :: jvr b :: st, w) = jq_s (mS w b) (1, 9, 0) (jq_b (decide (jwd st ≤ 8)) (jq_c 264 37 lv st (rn 176 (0, [(0, jvr b), (1, .inl x1)], [], w)))) := q_callv (as := [.inl x1]) (rest := st) (jd_of jb_264 dX9_tornBy_34) jo_264 jk_9_60 rfl rfl rfl jo_176 jf_264_176 (Nat.le_of_ble_eq_true rfl)
theorem p264_37 (lv : jmL) (st : List jmV) (w : jmW) : rn 264 (37, lv, st, w) = rn 264 (48, lv, st, w) := q_goto (jd_of jb_264 dX9_tornBy_37) (by decide)
theorem p264_40 (lv : jmL) (st : List jmV) (w : jmW) : rn 264 (40, lv, st, w) = jq_lda 264 41 lv st w (jg lv 0) := q_aload_n (jd_of jb_264 dX9_tornBy_40) rfl
theorem p264_41 (lv : jmL) (st : List jmV) (w : jmW) : rn 264 (41, lv, st, w) = jq_lda 264 42 lv st w (jg lv 0) := q_aload_n (jd_of jb_264 dX9_tornBy_41) rfl
theorem p264_42 (lv : jmL) (st : List jmV) (w : jmW) (a : Nat) : rn 264 (42, lv, jvr a :: st, w) = jq_gs (mS w a) (1, 9, 0) 264 45 lv (.inl (mI w a 33) :: st) (w) := q_getf (v := fun w a => .inl (mI w a 33)) (jd_of jb_264 dX9_tornBy_42) jo_264 jk_9_526 (fun _ _ => rfl)
theorem p264_45 (lv : jmL) (st : List jmV) (w : jmW) (b : Nat) (x1 : Int) : rn 264 (45, lv, .inl x1 :: jvr b :: st, w) = jq_s (mS w b) (1, 9, 0) (jq_b (decide (jwd st ≤ 8)) (jq_c 264 48 lv st (rn 213 (0, [(0, jvr b), (1, .inl x1)], [], w)))) := q_callv (as := [.inl x1]) (rest := st) (jd_of jb_264 dX9_tornBy_45) jo_264 jk_9_64 rfl rfl rfl jo_213 jf_264_213 (Nat.le_of_ble_eq_true rfl)
theorem p264_48 (lv : jmL) (w : jmW) (x : Int) : rn 264 (48, lv, [.inl x], w) = some (some (.inl x), w) := q_ireturn (jd_of jb_264 dX9_tornBy_48) jr_264
theorem p265_0 (lv : jmL) (st : List jmV) (w : jmW) : rn 265 (0, lv, st, w) = jq_lda 265 1 lv st w (jg lv 0) := q_aload_n (jd_of jb_265 dX9_joined_0) rfl
theorem p265_1 (lv : jmL) (st : List jmV) (w : jmW) : rn 265 (1, lv, st, w) = rn 265 (2, lv, .inl (0) :: st, w) := q_iconst (jd_of jb_265 dX9_joined_1)
theorem p265_2 (lv : jmL) (st : List jmV) (w : jmW) (a : Nat) (x : Int) : rn 265 (2, lv, .inl x :: jvr a :: st, w) = jq_gs (mS w a) (1, 9, 0) 265 5 lv (st) (setI w a 0 x) := q_putf (jd_of jb_265 dX9_joined_2) jo_265 jk_9_54 (Or.inl rfl) rfl
theorem p265_5 (lv : jmL) (st : List jmV) (w : jmW) : rn 265 (5, lv, st, w) = jq_lda 265 6 lv st w (jg lv 0) := q_aload_n (jd_of jb_265 dX9_joined_5) rfl
theorem p265_6 (lv : jmL) (st : List jmV) (w : jmW) : rn 265 (6, lv, st, w) = jq_ldi 265 7 lv st w (jg lv 1) := q_iload_n (jd_of jb_265 dX9_joined_6) rfl
theorem p265_7 (lv : jmL) (st : List jmV) (w : jmW) (b : Nat) (x1 : Int) : rn 265 (7, lv, .inl x1 :: jvr b :: st, w) = jq_s (mS w b) (1, 9, 0) (jq_b (decide (jwd st ≤ 8)) (jq_c 265 10 lv st (rn 234 (0, [(0, jvr b), (1, .inl x1)], [], w)))) := q_callv (as := [.inl x1]) (rest := st) (jd_of jb_265 dX9_joined_7) jo_265 jk_9_517 rfl rfl rfl jo_234 jf_265_234 (Nat.le_of_ble_eq_true rfl)
theorem p265_10 (lv : jmL) (st : List jmV) (w : jmW) (x : Int) : rn 265 (10, lv, .inl x :: st, w) = rn 265 (11, js lv 2 (.inl x), st, w) := q_istore_n (jd_of jb_265 dX9_joined_10) rfl (by rw [jm_265]; decide)
theorem p265_11 (lv : jmL) (st : List jmV) (w : jmW) : rn 265 (11, lv, st, w) = jq_ldi 265 12 lv st w (jg lv 2) := q_iload_n (jd_of jb_265 dX9_joined_11) rfl
theorem p265_12 (lv : jmL) (st : List jmV) (w : jmW) (x : Int) : rn 265 (12, lv, .inl x :: st, w) = if 0 < jw x then rn 265 (15, lv, st, w) else rn 265 (21, lv, st, w) := q_if_le (jd_of jb_265 dX9_joined_12) (by decide)
theorem p265_15 (lv : jmL) (st : List jmV) (w : jmW) : rn 265 (15, lv, st, w) = jq_lda 265 16 lv st w (jg lv 0) := q_aload_n (jd_of jb_265 dX9_joined_15) rfl
theorem p265_16 (lv : jmL) (st : List jmV) (w : jmW) : rn 265 (16, lv, st, w) = jq_ldi 265 17 lv st w (jg lv 2) := q_iload_n (jd_of jb_265 dX9_joined_16) rfl
theorem p265_17 (lv : jmL) (st : List jmV) (w : jmW) (b : Nat) (x1 : Int) : rn 265 (17, lv, .inl x1 :: jvr b :: st, w) = jq_s (mS w b) (1, 9, 0) (jq_b (decide (jwd st ≤ 8)) (jq_c 265 20 lv st (rn 176 (0, [(0, jvr b), (1, .inl x1)], [], w)))) := q_callv (as := [.inl x1]) (rest := st) (jd_of jb_265 dX9_joined_17) jo_265 jk_9_60 rfl rfl rfl jo_176 jf_265_176 (Nat.le_of_ble_eq_true rfl)
theorem p265_20 (lv : jmL) (w : jmW) (x : Int) : rn 265 (20, lv, [.inl x], w) = some (some (.inl x), w) := q_ireturn (jd_of jb_265 dX9_joined_20) jr_265
theorem p265_21 (lv : jmL) (st : List jmV) (w : jmW) : rn 265 (21, lv, st, w) = jq_lda 265 22 lv st w (jg lv 0) := q_aload_n (jd_of jb_265 dX9_joined_21) rfl
theorem p265_22 (lv : jmL) (st : List jmV) (w : jmW) : rn 265 (22, lv, st, w) = jq_ldi 265 23 lv st w (jg lv 1) := q_iload_n (jd_of jb_265 dX9_joined_22) rfl
theorem p265_23 (lv : jmL) (st : List jmV) (w : jmW) (b : Nat) (x1 : Int) : rn 265 (23, lv, .inl x1 :: jvr b :: st, w) = jq_s (mS w b) (1, 9, 0) (jq_b (decide (jwd st ≤ 8)) (jq_c 265 26 lv st (rn 235 (0, [(0, jvr b), (1, .inl x1)], [], w)))) := q_callv (as := [.inl x1]) (rest := st) (jd_of jb_265 dX9_joined_23) jo_265 jk_9_520 rfl rfl rfl jo_235 jf_265_235 (Nat.le_of_ble_eq_true rfl)
theorem p265_26 (lv : jmL) (st : List jmV) (w : jmW) : rn 265 (26, lv, st, w) = jq_lda 265 27 lv st w (jg lv 0) := q_aload_n (jd_of jb_265 dX9_joined_26) rfl
theorem p265_27 (lv : jmL) (st : List jmV) (w : jmW) : rn 265 (27, lv, st, w) = jq_lda 265 28 lv st w (jg lv 0) := q_aload_n (jd_of jb_265 dX9_joined_27) rfl
theorem p265_28 (lv : jmL) (st : List jmV) (w : jmW) (a : Nat) : rn 265 (28, lv, jvr a :: st, w) = jq_gs (mS w a) (1, 9, 0) 265 31 lv (.inl (mI w a 32) :: st) (w) := q_getf (v := fun w a => .inl (mI w a 32)) (jd_of jb_265 dX9_joined_28) jo_265 jk_9_472 (fun _ _ => rfl)
theorem p265_31 (lv : jmL) (st : List jmV) (w : jmW) (b : Nat) (x1 : Int) : rn 265 (31, lv, .inl x1 :: jvr b :: st, w) = jq_s (mS w b) (1, 9, 0) (jq_b (decide (jwd st ≤ 8)) (jq_c 265 34 lv st (rn 213 (0, [(0, jvr b), (1, .inl x1)], [], w)))) := q_callv (as := [.inl x1]) (rest := st) (jd_of jb_265 dX9_joined_31) jo_265 jk_9_64 rfl rfl rfl jo_213 jf_265_213 (Nat.le_of_ble_eq_true rfl)
theorem p265_34 (lv : jmL) (w : jmW) (x : Int) : rn 265 (34, lv, [.inl x], w) = some (some (.inl x), w) := q_ireturn (jd_of jb_265 dX9_joined_34) jr_265
theorem p266_0 (lv : jmL) (st : List jmV) (w : jmW) : rn 266 (0, lv, st, w) = jq_lda 266 1 lv st w (jg lv 0) := q_aload_n (jd_of jb_266 dX9_ring_0) rfl
theorem p266_1 (lv : jmL) (st : List jmV) (w : jmW) : rn 266 (1, lv, st, w) = rn 266 (2, lv, .inl (0) :: st, w) := q_iconst (jd_of jb_266 dX9_ring_1)
theorem p266_2 (lv : jmL) (st : List jmV) (w : jmW) (a : Nat) (x : Int) : rn 266 (2, lv, .inl x :: jvr a :: st, w) = jq_gs (mS w a) (1, 9, 0) 266 5 lv (st) (setI w a 0 x) := q_putf (jd_of jb_266 dX9_ring_2) jo_266 jk_9_54 (Or.inl rfl) rfl
theorem p266_5 (lv : jmL) (st : List jmV) (w : jmW) : rn 266 (5, lv, st, w) = jq_lda 266 6 lv st w (jg lv 0) := q_aload_n (jd_of jb_266 dX9_ring_5) rfl
theorem p266_6 (lv : jmL) (st : List jmV) (w : jmW) : rn 266 (6, lv, st, w) = jq_ldi 266 7 lv st w (jg lv 1) := q_iload_n (jd_of jb_266 dX9_ring_6) rfl
theorem p266_7 (lv : jmL) (st : List jmV) (w : jmW) (b : Nat) (x1 : Int) : rn 266 (7, lv, .inl x1 :: jvr b :: st, w) = jq_s (mS w b) (1, 9, 0) (jq_b (decide (jwd st ≤ 8)) (jq_c 266 10 lv st (rn 234 (0, [(0, jvr b), (1, .inl x1)], [], w)))) := q_callv (as := [.inl x1]) (rest := st) (jd_of jb_266 dX9_ring_7) jo_266 jk_9_517 rfl rfl rfl jo_234 jf_266_234 (Nat.le_of_ble_eq_true rfl)
theorem p266_10 (lv : jmL) (st : List jmV) (w : jmW) (x : Int) : rn 266 (10, lv, .inl x :: st, w) = rn 266 (11, js lv 2 (.inl x), st, w) := q_istore_n (jd_of jb_266 dX9_ring_10) rfl (by rw [jm_266]; decide)
theorem p266_11 (lv : jmL) (st : List jmV) (w : jmW) : rn 266 (11, lv, st, w) = jq_ldi 266 12 lv st w (jg lv 2) := q_iload_n (jd_of jb_266 dX9_ring_11) rfl
theorem p266_12 (lv : jmL) (st : List jmV) (w : jmW) (x : Int) : rn 266 (12, lv, .inl x :: st, w) = if 0 < jw x then rn 266 (15, lv, st, w) else rn 266 (21, lv, st, w) := q_if_le (jd_of jb_266 dX9_ring_12) (by decide)
theorem p266_15 (lv : jmL) (st : List jmV) (w : jmW) : rn 266 (15, lv, st, w) = jq_lda 266 16 lv st w (jg lv 0) := q_aload_n (jd_of jb_266 dX9_ring_15) rfl
theorem p266_16 (lv : jmL) (st : List jmV) (w : jmW) : rn 266 (16, lv, st, w) = jq_ldi 266 17 lv st w (jg lv 2) := q_iload_n (jd_of jb_266 dX9_ring_16) rfl
theorem p266_17 (lv : jmL) (st : List jmV) (w : jmW) (b : Nat) (x1 : Int) : rn 266 (17, lv, .inl x1 :: jvr b :: st, w) = jq_s (mS w b) (1, 9, 0) (jq_b (decide (jwd st ≤ 8)) (jq_c 266 20 lv st (rn 176 (0, [(0, jvr b), (1, .inl x1)], [], w)))) := q_callv (as := [.inl x1]) (rest := st) (jd_of jb_266 dX9_ring_17) jo_266 jk_9_60 rfl rfl rfl jo_176 jf_266_176 (Nat.le_of_ble_eq_true rfl)
theorem p266_20 (lv : jmL) (w : jmW) (x : Int) : rn 266 (20, lv, [.inl x], w) = some (some (.inl x), w) := q_ireturn (jd_of jb_266 dX9_ring_20) jr_266
theorem p266_21 (lv : jmL) (st : List jmV) (w : jmW) : rn 266 (21, lv, st, w) = jq_lda 266 22 lv st w (jg lv 0) := q_aload_n (jd_of jb_266 dX9_ring_21) rfl
theorem p266_22 (lv : jmL) (st : List jmV) (w : jmW) (b : Nat) : rn 266 (22, lv, jvr b :: st, w) = jq_s (mS w b) (1, 9, 0) (jq_b (decide (jwd st ≤ 8)) (jq_c 266 25 lv st (rn 236 (0, [(0, jvr b)], [], w)))) := q_callv (as := []) (rest := st) (jd_of jb_266 dX9_ring_22) jo_266 jk_9_498 rfl rfl rfl jo_236 jf_266_236 (Nat.le_of_ble_eq_true rfl)
theorem p266_25 (lv : jmL) (st : List jmV) (w : jmW) : rn 266 (25, lv, st, w) = jq_lda 266 26 lv st w (jg lv 0) := q_aload_n (jd_of jb_266 dX9_ring_25) rfl
theorem p266_26 (lv : jmL) (st : List jmV) (w : jmW) (b : Nat) : rn 266 (26, lv, jvr b :: st, w) = jq_s (mS w b) (1, 9, 0) (jq_b (decide (jwd st ≤ 8)) (jq_c 266 29 lv st (rn 237 (0, [(0, jvr b)], [], w)))) := q_callv (as := []) (rest := st) (jd_of jb_266 dX9_ring_26) jo_266 jk_9_501 rfl rfl rfl jo_237 jf_266_237 (Nat.le_of_ble_eq_true rfl)
theorem p266_29 (lv : jmL) (st : List jmV) (w : jmW) : rn 266 (29, lv, st, w) = rn 266 (30, lv, .inl (1) :: st, w) := q_iconst (jd_of jb_266 dX9_ring_29)
theorem p266_30 (lv : jmL) (st : List jmV) (w : jmW) (x : Int) : rn 266 (30, lv, .inl x :: st, w) = rn 266 (31, js lv 3 (.inl x), st, w) := q_istore_n (jd_of jb_266 dX9_ring_30) rfl (by rw [jm_266]; decide)
theorem p266_31 (lv : jmL) (st : List jmV) (w : jmW) : rn 266 (31, lv, st, w) = jq_ldi 266 32 lv st w (jg lv 3) := q_iload_n (jd_of jb_266 dX9_ring_31) rfl
theorem p266_32 (lv : jmL) (st : List jmV) (w : jmW) : rn 266 (32, lv, st, w) = jq_ldi 266 33 lv st w (jg lv 1) := q_iload_n (jd_of jb_266 dX9_ring_32) rfl
theorem p266_33 (lv : jmL) (st : List jmV) (w : jmW) (x y : Int) : rn 266 (33, lv, .inl y :: .inl x :: st, w) = if jw y < jw x then rn 266 (80, lv, st, w) else rn 266 (36, lv, st, w) := q_icmp_gt (jd_of jb_266 dX9_ring_33) (by decide)
theorem p266_36 (lv : jmL) (st : List jmV) (w : jmW) : rn 266 (36, lv, st, w) = jq_lda 266 37 lv st w (jg lv 0) := q_aload_n (jd_of jb_266 dX9_ring_36) rfl
theorem p266_37 (lv : jmL) (st : List jmV) (w : jmW) (a : Nat) : rn 266 (37, lv, jvr a :: st, w) = jq_gs (mS w a) (1, 9, 0) 266 40 lv (.inr (.inr (mR w a 18)) :: st) (w) := q_getf (v := fun w a => .inr (.inr (mR w a 18))) (jd_of jb_266 dX9_ring_37) jo_266 jk_9_21 (fun _ _ => rfl)
theorem p266_40 (lv : jmL) (st : List jmV) (w : jmW) : rn 266 (40, lv, st, w) = rn 266 (43, lv, .inl (297) :: st, w) := q_sipush (jd_of jb_266 dX9_ring_40) (by decide +kernel)
theorem p266_43 (lv : jmL) (st : List jmV) (w : jmW) (a : Nat) (j : Int) : rn 266 (43, lv, .inl j :: jvr a :: st, w) = jq_gr (mS w a) 0 j 266 44 lv (.inl (mI w a (jix j)) :: st) (w) := q_iald (jd_of jb_266 dX9_ring_43)
theorem p266_44 (lv : jmL) (st : List jmV) (w : jmW) (x : Int) : rn 266 (44, lv, .inl x :: st, w) = if jw x = 0 then rn 266 (47, lv, st, w) else rn 266 (80, lv, st, w) := q_if_ne (jd_of jb_266 dX9_ring_44) (by decide)
theorem p266_47 (lv : jmL) (st : List jmV) (w : jmW) : rn 266 (47, lv, st, w) = jq_lda 266 48 lv st w (jg lv 0) := q_aload_n (jd_of jb_266 dX9_ring_47) rfl
theorem p266_48 (lv : jmL) (st : List jmV) (w : jmW) : rn 266 (48, lv, st, w) = jq_lda 266 49 lv st w (jg lv 0) := q_aload_n (jd_of jb_266 dX9_ring_48) rfl
theorem p266_49 (lv : jmL) (st : List jmV) (w : jmW) (a : Nat) : rn 266 (49, lv, jvr a :: st, w) = jq_gs (mS w a) (1, 9, 0) 266 52 lv (.inr (.inr (mR w a 19)) :: st) (w) := q_getf (v := fun w a => .inr (.inr (mR w a 19))) (jd_of jb_266 dX9_ring_49) jo_266 jk_9_24 (fun _ _ => rfl)
theorem p266_52 (lv : jmL) (st : List jmV) (w : jmW) : rn 266 (52, lv, st, w) = rn 266 (53, lv, .inl (0) :: st, w) := q_iconst (jd_of jb_266 dX9_ring_52)
theorem p266_53 (lv : jmL) (st : List jmV) (w : jmW) (b : Nat) (x1 : Option Nat) (x2 : Int) : rn 266 (53, lv, .inl x2 :: .inr (.inr x1) :: jvr b :: st, w) = jq_s (mS w b) (1, 9, 0) (jq_b (decide (jwd st ≤ 8)) (jq_c 266 56 lv st (rn 238 (0, [(0, jvr b), (1, .inr (.inr x1)), (2, .inl x2)], [], w)))) := q_callv (as := [.inr (.inr x1), .inl x2]) (rest := st) (jd_of jb_266 dX9_ring_53) jo_266 jk_9_504 rfl rfl rfl jo_238 jf_266_238 (Nat.le_of_ble_eq_true rfl)
theorem p266_56 (lv : jmL) (st : List jmV) (w : jmW) : rn 266 (56, lv, st, w) = jq_lda 266 57 lv st w (jg lv 0) := q_aload_n (jd_of jb_266 dX9_ring_56) rfl
theorem p266_57 (lv : jmL) (st : List jmV) (w : jmW) (a : Nat) : rn 266 (57, lv, jvr a :: st, w) = jq_gs (mS w a) (1, 9, 0) 266 60 lv (.inr (.inr (mR w a 19)) :: st) (w) := q_getf (v := fun w a => .inr (.inr (mR w a 19))) (jd_of jb_266 dX9_ring_57) jo_266 jk_9_24 (fun _ _ => rfl)
theorem p266_60 (lv : jmL) (st : List jmV) (w : jmW) : rn 266 (60, lv, st, w) = rn 266 (63, lv, .inl (297) :: st, w) := q_sipush (jd_of jb_266 dX9_ring_60) (by decide +kernel)
theorem p266_63 (lv : jmL) (st : List jmV) (w : jmW) (a : Nat) (j : Int) : rn 266 (63, lv, .inl j :: jvr a :: st, w) = jq_gr (mS w a) 0 j 266 64 lv (.inl (mI w a (jix j)) :: st) (w) := q_iald (jd_of jb_266 dX9_ring_63)
theorem p266_64 (lv : jmL) (st : List jmV) (w : jmW) : rn 266 (64, lv, st, w) = rn 266 (65, lv, .inl (1) :: st, w) := q_iconst (jd_of jb_266 dX9_ring_64)
theorem p266_65 (lv : jmL) (st : List jmV) (w : jmW) (x y : Int) : rn 266 (65, lv, .inl y :: .inl x :: st, w) = if jw x = jw y then rn 266 (68, lv, st, w) else rn 266 (74, lv, st, w) := q_icmp_ne (jd_of jb_266 dX9_ring_65) (by decide)
theorem p266_68 (lv : jmL) (st : List jmV) (w : jmW) : rn 266 (68, lv, st, w) = jq_lda 266 69 lv st w (jg lv 0) := q_aload_n (jd_of jb_266 dX9_ring_68) rfl
theorem p266_69 (lv : jmL) (st : List jmV) (w : jmW) : rn 266 (69, lv, st, w) = jq_ldi 266 70 lv st w (jg lv 3) := q_iload_n (jd_of jb_266 dX9_ring_69) rfl
theorem p266_70 (lv : jmL) (st : List jmV) (w : jmW) (b : Nat) (x1 : Int) : rn 266 (70, lv, .inl x1 :: jvr b :: st, w) = jq_s (mS w b) (1, 9, 0) (jq_b (decide (jwd st ≤ 8)) (jq_c 266 73 lv st (rn 213 (0, [(0, jvr b), (1, .inl x1)], [], w)))) := q_callv (as := [.inl x1]) (rest := st) (jd_of jb_266 dX9_ring_70) jo_266 jk_9_64 rfl rfl rfl jo_213 jf_266_213 (Nat.le_of_ble_eq_true rfl)
theorem p266_73 (lv : jmL) (w : jmW) (x : Int) : rn 266 (73, lv, [.inl x], w) = some (some (.inl x), w) := q_ireturn (jd_of jb_266 dX9_ring_73) jr_266
theorem p266_74 (lv : jmL) (st : List jmV) (w : jmW) : rn 266 (74, lv, st, w) = jq_inc 266 77 lv 3 (1) st w (jg lv 3) := q_iinc (jd_of jb_266 dX9_ring_74) (by rw [jm_266]; decide)
theorem p266_77 (lv : jmL) (st : List jmV) (w : jmW) : rn 266 (77, lv, st, w) = rn 266 (31, lv, st, w) := q_goto (jd_of jb_266 dX9_ring_77) (by decide)
theorem p266_80 (lv : jmL) (st : List jmV) (w : jmW) : rn 266 (80, lv, st, w) = jq_lda 266 81 lv st w (jg lv 0) := q_aload_n (jd_of jb_266 dX9_ring_80) rfl
theorem p266_81 (lv : jmL) (st : List jmV) (w : jmW) : rn 266 (81, lv, st, w) = rn 266 (83, lv, .inl (-2) :: st, w) := q_bipush (jd_of jb_266 dX9_ring_81) (by decide +kernel)
theorem p266_83 (lv : jmL) (st : List jmV) (w : jmW) (b : Nat) (x1 : Int) : rn 266 (83, lv, .inl x1 :: jvr b :: st, w) = jq_s (mS w b) (1, 9, 0) (jq_b (decide (jwd st ≤ 8)) (jq_c 266 86 lv st (rn 213 (0, [(0, jvr b), (1, .inl x1)], [], w)))) := q_callv (as := [.inl x1]) (rest := st) (jd_of jb_266 dX9_ring_83) jo_266 jk_9_64 rfl rfl rfl jo_213 jf_266_213 (Nat.le_of_ble_eq_true rfl)
theorem p266_86 (lv : jmL) (w : jmW) (x : Int) : rn 266 (86, lv, [.inl x], w) = some (some (.inl x), w) := q_ireturn (jd_of jb_266 dX9_ring_86) jr_266
theorem p267_0 (lv : jmL) (st : List jmV) (w : jmW) : rn 267 (0, lv, st, w) = jq_lda 267 1 lv st w (jg lv 0) := q_aload_n (jd_of jb_267 dX9_jolt_0) rfl
theorem p267_1 (lv : jmL) (st : List jmV) (w : jmW) : rn 267 (1, lv, st, w) = rn 267 (2, lv, .inl (0) :: st, w) := q_iconst (jd_of jb_267 dX9_jolt_1)
theorem p267_2 (lv : jmL) (st : List jmV) (w : jmW) (a : Nat) (x : Int) : rn 267 (2, lv, .inl x :: jvr a :: st, w) = jq_gs (mS w a) (1, 9, 0) 267 5 lv (st) (setI w a 0 x) := q_putf (jd_of jb_267 dX9_jolt_2) jo_267 jk_9_54 (Or.inl rfl) rfl
theorem p267_5 (lv : jmL) (st : List jmV) (w : jmW) : rn 267 (5, lv, st, w) = jq_lda 267 6 lv st w (jg lv 0) := q_aload_n (jd_of jb_267 dX9_jolt_5) rfl
theorem p267_6 (lv : jmL) (st : List jmV) (w : jmW) : rn 267 (6, lv, st, w) = jq_ldi 267 7 lv st w (jg lv 2) := q_iload_n (jd_of jb_267 dX9_jolt_6) rfl
theorem p267_7 (lv : jmL) (st : List jmV) (w : jmW) (b : Nat) (x1 : Int) : rn 267 (7, lv, .inl x1 :: jvr b :: st, w) = jq_s (mS w b) (1, 9, 0) (jq_b (decide (jwd st ≤ 8)) (jq_c 267 10 lv st (rn 220 (0, [(0, jvr b), (1, .inl x1)], [], w)))) := q_callv (as := [.inl x1]) (rest := st) (jd_of jb_267 dX9_jolt_7) jo_267 jk_9_511 rfl rfl rfl jo_220 jf_267_220 (Nat.le_of_ble_eq_true rfl)
theorem p267_10 (lv : jmL) (st : List jmV) (w : jmW) (x : Int) : rn 267 (10, lv, .inl x :: st, w) = if jw x = 0 then rn 267 (17, lv, st, w) else rn 267 (13, lv, st, w) := q_if_eq (jd_of jb_267 dX9_jolt_10) (by decide)
theorem p267_13 (lv : jmL) (st : List jmV) (w : jmW) : rn 267 (13, lv, st, w) = jq_ldi 267 14 lv st w (jg lv 2) := q_iload_n (jd_of jb_267 dX9_jolt_13) rfl
theorem p267_14 (lv : jmL) (st : List jmV) (w : jmW) (x : Int) : rn 267 (14, lv, .inl x :: st, w) = if jw x = 0 then rn 267 (17, lv, st, w) else rn 267 (23, lv, st, w) := q_if_ne (jd_of jb_267 dX9_jolt_14) (by decide)
theorem p267_17 (lv : jmL) (st : List jmV) (w : jmW) : rn 267 (17, lv, st, w) = jq_lda 267 18 lv st w (jg lv 0) := q_aload_n (jd_of jb_267 dX9_jolt_17) rfl
theorem p267_18 (lv : jmL) (st : List jmV) (w : jmW) : rn 267 (18, lv, st, w) = rn 267 (19, lv, .inl (1) :: st, w) := q_iconst (jd_of jb_267 dX9_jolt_18)
theorem p267_19 (lv : jmL) (st : List jmV) (w : jmW) (b : Nat) (x1 : Int) : rn 267 (19, lv, .inl x1 :: jvr b :: st, w) = jq_s (mS w b) (1, 9, 0) (jq_b (decide (jwd st ≤ 8)) (jq_c 267 22 lv st (rn 176 (0, [(0, jvr b), (1, .inl x1)], [], w)))) := q_callv (as := [.inl x1]) (rest := st) (jd_of jb_267 dX9_jolt_19) jo_267 jk_9_60 rfl rfl rfl jo_176 jf_267_176 (Nat.le_of_ble_eq_true rfl)
theorem p267_22 (lv : jmL) (w : jmW) (x : Int) : rn 267 (22, lv, [.inl x], w) = some (some (.inl x), w) := q_ireturn (jd_of jb_267 dX9_jolt_22) jr_267
theorem p267_23 (lv : jmL) (st : List jmV) (w : jmW) : rn 267 (23, lv, st, w) = jq_ldi 267 24 lv st w (jg lv 1) := q_iload_n (jd_of jb_267 dX9_jolt_23) rfl
theorem p267_24 (lv : jmL) (st : List jmV) (w : jmW) : rn 267 (24, lv, st, w) = rn 267 (25, lv, .inl (1) :: st, w) := q_iconst (jd_of jb_267 dX9_jolt_24)
theorem p267_25 (lv : jmL) (st : List jmV) (w : jmW) : rn 267 (25, lv, st, w) = rn 267 (26, lv, .inl (4) :: st, w) := q_iconst (jd_of jb_267 dX9_jolt_25)
theorem p267_26 (lv : jmL) (st : List jmV) (w : jmW) (x1 : Int) (x2 : Int) (x3 : Int) : rn 267 (26, lv, .inl x3 :: .inl x2 :: .inl x1 :: st, w) = jq_b (decide (jwd st ≤ 8)) (jq_c 267 29 lv st (rn 192 (0, [(0, .inl x1), (1, .inl x2), (2, .inl x3)], [], w))) := q_calls (as := [.inl x1, .inl x2, .inl x3]) (rest := st) (jd_of jb_267 dX9_jolt_26) jo_267 jk_9_135 rfl rfl rfl jf_267_192 (Nat.le_of_ble_eq_true rfl)
theorem p267_29 (lv : jmL) (st : List jmV) (w : jmW) (x : Int) : rn 267 (29, lv, .inl x :: st, w) = if jw x = 0 then rn 267 (32, lv, st, w) else rn 267 (38, lv, st, w) := q_if_ne (jd_of jb_267 dX9_jolt_29) (by decide)
theorem p267_32 (lv : jmL) (st : List jmV) (w : jmW) : rn 267 (32, lv, st, w) = jq_lda 267 33 lv st w (jg lv 0) := q_aload_n (jd_of jb_267 dX9_jolt_32) rfl
theorem p267_33 (lv : jmL) (st : List jmV) (w : jmW) : rn 267 (33, lv, st, w) = rn 267 (34, lv, .inl (2) :: st, w) := q_iconst (jd_of jb_267 dX9_jolt_33)
theorem p267_34 (lv : jmL) (st : List jmV) (w : jmW) (b : Nat) (x1 : Int) : rn 267 (34, lv, .inl x1 :: jvr b :: st, w) = jq_s (mS w b) (1, 9, 0) (jq_b (decide (jwd st ≤ 8)) (jq_c 267 37 lv st (rn 176 (0, [(0, jvr b), (1, .inl x1)], [], w)))) := q_callv (as := [.inl x1]) (rest := st) (jd_of jb_267 dX9_jolt_34) jo_267 jk_9_60 rfl rfl rfl jo_176 jf_267_176 (Nat.le_of_ble_eq_true rfl)
theorem p267_37 (lv : jmL) (w : jmW) (x : Int) : rn 267 (37, lv, [.inl x], w) = some (some (.inl x), w) := q_ireturn (jd_of jb_267 dX9_jolt_37) jr_267
theorem p267_38 (lv : jmL) (st : List jmV) (w : jmW) : rn 267 (38, lv, st, w) = jq_lda 267 39 lv st w (jg lv 0) := q_aload_n (jd_of jb_267 dX9_jolt_38) rfl
theorem p267_39 (lv : jmL) (st : List jmV) (w : jmW) : rn 267 (39, lv, st, w) = jq_ldi 267 40 lv st w (jg lv 1) := q_iload_n (jd_of jb_267 dX9_jolt_39) rfl
theorem p267_40 (lv : jmL) (st : List jmV) (w : jmW) (b : Nat) (x1 : Int) : rn 267 (40, lv, .inl x1 :: jvr b :: st, w) = jq_s (mS w b) (1, 9, 0) (jq_b (decide (jwd st ≤ 8)) (jq_c 267 43 lv st (rn 268 (0, [(0, jvr b), (1, .inl x1)], [], w)))) := q_callv (as := [.inl x1]) (rest := st) (jd_of jb_267 dX9_jolt_40) jo_267 jk_9_532 rfl rfl rfl jo_268 jf_267_268 (Nat.le_of_ble_eq_true rfl)
theorem p267_43 (lv : jmL) (st : List jmV) (w : jmW) : rn 267 (43, lv, st, w) = jq_lda 267 44 lv st w (jg lv 0) := q_aload_n (jd_of jb_267 dX9_jolt_43) rfl
theorem p267_44 (lv : jmL) (st : List jmV) (w : jmW) : rn 267 (44, lv, st, w) = jq_lda 267 45 lv st w (jg lv 0) := q_aload_n (jd_of jb_267 dX9_jolt_44) rfl
theorem p267_45 (lv : jmL) (st : List jmV) (w : jmW) : rn 267 (45, lv, st, w) = jq_ldi 267 46 lv st w (jg lv 2) := q_iload_n (jd_of jb_267 dX9_jolt_45) rfl
theorem p267_46 (lv : jmL) (st : List jmV) (w : jmW) (b : Nat) (x1 : Int) : rn 267 (46, lv, .inl x1 :: jvr b :: st, w) = jq_s (mS w b) (1, 9, 0) (jq_b (decide (jwd st ≤ 8)) (jq_c 267 49 lv st (rn 269 (0, [(0, jvr b), (1, .inl x1)], [], w)))) := q_callv (as := [.inl x1]) (rest := st) (jd_of jb_267 dX9_jolt_46) jo_267 jk_9_535 rfl rfl rfl jo_269 jf_267_269 (Nat.le_of_ble_eq_true rfl)
theorem p267_49 (lv : jmL) (st : List jmV) (w : jmW) (b : Nat) (x1 : Int) : rn 267 (49, lv, .inl x1 :: jvr b :: st, w) = jq_s (mS w b) (1, 9, 0) (jq_b (decide (jwd st ≤ 8)) (jq_c 267 52 lv st (rn 213 (0, [(0, jvr b), (1, .inl x1)], [], w)))) := q_callv (as := [.inl x1]) (rest := st) (jd_of jb_267 dX9_jolt_49) jo_267 jk_9_64 rfl rfl rfl jo_213 jf_267_213 (Nat.le_of_ble_eq_true rfl)
theorem p267_52 (lv : jmL) (w : jmW) (x : Int) : rn 267 (52, lv, [.inl x], w) = some (some (.inl x), w) := q_ireturn (jd_of jb_267 dX9_jolt_52) jr_267
theorem p268_0 (lv : jmL) (st : List jmV) (w : jmW) : rn 268 (0, lv, st, w) = jq_lda 268 1 lv st w (jg lv 0) := q_aload_n (jd_of jb_268 dX9_jolts_0) rfl
theorem p268_1 (lv : jmL) (st : List jmV) (w : jmW) (b : Nat) : rn 268 (1, lv, jvr b :: st, w) = jq_s (mS w b) (1, 9, 0) (jq_b (decide (jwd st ≤ 8)) (jq_c 268 4 lv st (rn 236 (0, [(0, jvr b)], [], w)))) := q_callv (as := []) (rest := st) (jd_of jb_268 dX9_jolts_1) jo_268 jk_9_498 rfl rfl rfl jo_236 jf_268_236 (Nat.le_of_ble_eq_true rfl)
theorem p268_4 (lv : jmL) (st : List jmV) (w : jmW) : rn 268 (4, lv, st, w) = jq_lda 268 5 lv st w (jg lv 0) := q_aload_n (jd_of jb_268 dX9_jolts_4) rfl
theorem p268_5 (lv : jmL) (st : List jmV) (w : jmW) (b : Nat) : rn 268 (5, lv, jvr b :: st, w) = jq_s (mS w b) (1, 9, 0) (jq_b (decide (jwd st ≤ 8)) (jq_c 268 8 lv st (rn 237 (0, [(0, jvr b)], [], w)))) := q_callv (as := []) (rest := st) (jd_of jb_268 dX9_jolts_5) jo_268 jk_9_501 rfl rfl rfl jo_237 jf_268_237 (Nat.le_of_ble_eq_true rfl)
theorem p268_8 (lv : jmL) (st : List jmV) (w : jmW) : rn 268 (8, lv, st, w) = rn 268 (9, lv, .inl (0) :: st, w) := q_iconst (jd_of jb_268 dX9_jolts_8)
theorem p268_9 (lv : jmL) (st : List jmV) (w : jmW) (x : Int) : rn 268 (9, lv, .inl x :: st, w) = rn 268 (10, js lv 2 (.inl x), st, w) := q_istore_n (jd_of jb_268 dX9_jolts_9) rfl (by rw [jm_268]; decide)
theorem p268_10 (lv : jmL) (st : List jmV) (w : jmW) : rn 268 (10, lv, st, w) = jq_ldi 268 11 lv st w (jg lv 2) := q_iload_n (jd_of jb_268 dX9_jolts_10) rfl
theorem p268_11 (lv : jmL) (st : List jmV) (w : jmW) : rn 268 (11, lv, st, w) = jq_lda 268 12 lv st w (jg lv 0) := q_aload_n (jd_of jb_268 dX9_jolts_11) rfl
theorem p268_12 (lv : jmL) (st : List jmV) (w : jmW) (a : Nat) : rn 268 (12, lv, jvr a :: st, w) = jq_gs (mS w a) (1, 9, 0) 268 15 lv (.inr (.inr (mR w a 34)) :: st) (w) := q_getf (v := fun w a => .inr (.inr (mR w a 34))) (jd_of jb_268 dX9_jolts_12) jo_268 jk_9_45 (fun _ _ => rfl)
theorem p268_15 (lv : jmL) (st : List jmV) (w : jmW) (a : Nat) : rn 268 (15, lv, jvr a :: st, w) = jq_gb (decide ((mS w a).1 = 2 ∨ (mS w a).1 = 4)) 268 16 lv (.inl ((mS w a).2.2 : Nat) :: st) (w) := q_alen (jd_of jb_268 dX9_jolts_15)
theorem p268_16 (lv : jmL) (st : List jmV) (w : jmW) (x y : Int) : rn 268 (16, lv, .inl y :: .inl x :: st, w) = if jw x < jw y then rn 268 (19, lv, st, w) else rn 268 (33, lv, st, w) := q_icmp_ge (jd_of jb_268 dX9_jolts_16) (by decide)
theorem p268_19 (lv : jmL) (st : List jmV) (w : jmW) : rn 268 (19, lv, st, w) = jq_lda 268 20 lv st w (jg lv 0) := q_aload_n (jd_of jb_268 dX9_jolts_19) rfl
theorem p268_20 (lv : jmL) (st : List jmV) (w : jmW) (a : Nat) : rn 268 (20, lv, jvr a :: st, w) = jq_gs (mS w a) (1, 9, 0) 268 23 lv (.inr (.inr (mR w a 34)) :: st) (w) := q_getf (v := fun w a => .inr (.inr (mR w a 34))) (jd_of jb_268 dX9_jolts_20) jo_268 jk_9_45 (fun _ _ => rfl)
theorem p268_23 (lv : jmL) (st : List jmV) (w : jmW) : rn 268 (23, lv, st, w) = jq_ldi 268 24 lv st w (jg lv 2) := q_iload_n (jd_of jb_268 dX9_jolts_23) rfl
theorem p268_24 (lv : jmL) (st : List jmV) (w : jmW) : rn 268 (24, lv, st, w) = rn 268 (26, lv, .inl (-2) :: st, w) := q_bipush (jd_of jb_268 dX9_jolts_24) (by decide +kernel)
theorem p268_26 (lv : jmL) (st : List jmV) (w : jmW) (a : Nat) (j x : Int) : rn 268 (26, lv, .inl x :: .inl j :: jvr a :: st, w) = jq_gw (mS w a) 0 j 268 27 lv (st) (setI w a (jix j) x) := q_iast (jd_of jb_268 dX9_jolts_26)
theorem p268_27 (lv : jmL) (st : List jmV) (w : jmW) : rn 268 (27, lv, st, w) = jq_inc 268 30 lv 2 (1) st w (jg lv 2) := q_iinc (jd_of jb_268 dX9_jolts_27) (by rw [jm_268]; decide)
theorem p268_30 (lv : jmL) (st : List jmV) (w : jmW) : rn 268 (30, lv, st, w) = rn 268 (10, lv, st, w) := q_goto (jd_of jb_268 dX9_jolts_30) (by decide)
theorem p268_33 (lv : jmL) (st : List jmV) (w : jmW) : rn 268 (33, lv, st, w) = rn 268 (34, lv, .inl (0) :: st, w) := q_iconst (jd_of jb_268 dX9_jolts_33)
theorem p268_34 (lv : jmL) (st : List jmV) (w : jmW) (x : Int) : rn 268 (34, lv, .inl x :: st, w) = rn 268 (35, js lv 2 (.inl x), st, w) := q_istore_n (jd_of jb_268 dX9_jolts_34) rfl (by rw [jm_268]; decide)
theorem p268_35 (lv : jmL) (st : List jmV) (w : jmW) : rn 268 (35, lv, st, w) = jq_ldi 268 36 lv st w (jg lv 2) := q_iload_n (jd_of jb_268 dX9_jolts_35) rfl
theorem p268_36 (lv : jmL) (st : List jmV) (w : jmW) : rn 268 (36, lv, st, w) = jq_ldi 268 37 lv st w (jg lv 1) := q_iload_n (jd_of jb_268 dX9_jolts_36) rfl
theorem p268_37 (lv : jmL) (st : List jmV) (w : jmW) : rn 268 (37, lv, st, w) = rn 268 (39, lv, .inl (12) :: st, w) := q_bipush (jd_of jb_268 dX9_jolts_37) (by decide +kernel)
theorem p268_39 (lv : jmL) (st : List jmV) (w : jmW) (x y : Int) : rn 268 (39, lv, .inl y :: .inl x :: st, w) = rn 268 (40, lv, .inl (x + y) :: st, w) := q_iadd (jd_of jb_268 dX9_jolts_39)
theorem p268_40 (lv : jmL) (st : List jmV) (w : jmW) (x y : Int) : rn 268 (40, lv, .inl y :: .inl x :: st, w) = if jw x < jw y then rn 268 (43, lv, st, w) else rn 268 (136, lv, st, w) := q_icmp_ge (jd_of jb_268 dX9_jolts_40) (by decide)
theorem p268_43 (lv : jmL) (st : List jmV) (w : jmW) : rn 268 (43, lv, st, w) = jq_lda 268 44 lv st w (jg lv 0) := q_aload_n (jd_of jb_268 dX9_jolts_43) rfl
theorem p268_44 (lv : jmL) (st : List jmV) (w : jmW) : rn 268 (44, lv, st, w) = jq_lda 268 45 lv st w (jg lv 0) := q_aload_n (jd_of jb_268 dX9_jolts_44) rfl
theorem p268_45 (lv : jmL) (st : List jmV) (w : jmW) (a : Nat) : rn 268 (45, lv, jvr a :: st, w) = jq_gs (mS w a) (1, 9, 0) 268 48 lv (.inr (.inr (mR w a 19)) :: st) (w) := q_getf (v := fun w a => .inr (.inr (mR w a 19))) (jd_of jb_268 dX9_jolts_45) jo_268 jk_9_24 (fun _ _ => rfl)
theorem p268_48 (lv : jmL) (st : List jmV) (w : jmW) : rn 268 (48, lv, st, w) = jq_ldi 268 49 lv st w (jg lv 2) := q_iload_n (jd_of jb_268 dX9_jolts_48) rfl
theorem p268_49 (lv : jmL) (st : List jmV) (w : jmW) : rn 268 (49, lv, st, w) = jq_ldi 268 50 lv st w (jg lv 1) := q_iload_n (jd_of jb_268 dX9_jolts_49) rfl
theorem p268_50 (lv : jmL) (st : List jmV) (w : jmW) (x y : Int) : rn 268 (50, lv, .inl y :: .inl x :: st, w) = if jw x < jw y then rn 268 (53, lv, st, w) else rn 268 (57, lv, st, w) := q_icmp_ge (jd_of jb_268 dX9_jolts_50) (by decide)
theorem p268_53 (lv : jmL) (st : List jmV) (w : jmW) : rn 268 (53, lv, st, w) = rn 268 (54, lv, .inl (1) :: st, w) := q_iconst (jd_of jb_268 dX9_jolts_53)
theorem p268_54 (lv : jmL) (st : List jmV) (w : jmW) : rn 268 (54, lv, st, w) = rn 268 (58, lv, st, w) := q_goto (jd_of jb_268 dX9_jolts_54) (by decide)
theorem p268_57 (lv : jmL) (st : List jmV) (w : jmW) : rn 268 (57, lv, st, w) = rn 268 (58, lv, .inl (0) :: st, w) := q_iconst (jd_of jb_268 dX9_jolts_57)
theorem p268_58 (lv : jmL) (st : List jmV) (w : jmW) (b : Nat) (x1 : Option Nat) (x2 : Int) : rn 268 (58, lv, .inl x2 :: .inr (.inr x1) :: jvr b :: st, w) = jq_s (mS w b) (1, 9, 0) (jq_b (decide (jwd st ≤ 8)) (jq_c 268 61 lv st (rn 238 (0, [(0, jvr b), (1, .inr (.inr x1)), (2, .inl x2)], [], w)))) := q_callv (as := [.inr (.inr x1), .inl x2]) (rest := st) (jd_of jb_268 dX9_jolts_58) jo_268 jk_9_504 rfl rfl rfl jo_238 jf_268_238 (Nat.le_of_ble_eq_true rfl)
theorem p268_61 (lv : jmL) (st : List jmV) (w : jmW) : rn 268 (61, lv, st, w) = rn 268 (62, lv, .inl (1) :: st, w) := q_iconst (jd_of jb_268 dX9_jolts_61)
theorem p268_62 (lv : jmL) (st : List jmV) (w : jmW) (x : Int) : rn 268 (62, lv, .inl x :: st, w) = rn 268 (63, js lv 3 (.inl x), st, w) := q_istore_n (jd_of jb_268 dX9_jolts_62) rfl (by rw [jm_268]; decide)
theorem p268_63 (lv : jmL) (st : List jmV) (w : jmW) : rn 268 (63, lv, st, w) = jq_ldi 268 64 lv st w (jg lv 3) := q_iload_n (jd_of jb_268 dX9_jolts_63) rfl
theorem p268_64 (lv : jmL) (st : List jmV) (w : jmW) : rn 268 (64, lv, st, w) = jq_lda 268 65 lv st w (jg lv 0) := q_aload_n (jd_of jb_268 dX9_jolts_64) rfl
theorem p268_65 (lv : jmL) (st : List jmV) (w : jmW) (a : Nat) : rn 268 (65, lv, jvr a :: st, w) = jq_gs (mS w a) (1, 9, 0) 268 68 lv (.inr (.inr (mR w a 19)) :: st) (w) := q_getf (v := fun w a => .inr (.inr (mR w a 19))) (jd_of jb_268 dX9_jolts_65) jo_268 jk_9_24 (fun _ _ => rfl)
theorem p268_68 (lv : jmL) (st : List jmV) (w : jmW) : rn 268 (68, lv, st, w) = rn 268 (71, lv, .inl (289) :: st, w) := q_sipush (jd_of jb_268 dX9_jolts_68) (by decide +kernel)
theorem p268_71 (lv : jmL) (st : List jmV) (w : jmW) (a : Nat) (j : Int) : rn 268 (71, lv, .inl j :: jvr a :: st, w) = jq_gr (mS w a) 0 j 268 72 lv (.inl (mI w a (jix j)) :: st) (w) := q_iald (jd_of jb_268 dX9_jolts_71)
theorem p268_72 (lv : jmL) (st : List jmV) (w : jmW) (x y : Int) : rn 268 (72, lv, .inl y :: .inl x :: st, w) = if jw x < jw y then rn 268 (75, lv, st, w) else rn 268 (130, lv, st, w) := q_icmp_ge (jd_of jb_268 dX9_jolts_72) (by decide)
theorem p268_75 (lv : jmL) (st : List jmV) (w : jmW) : rn 268 (75, lv, st, w) = jq_lda 268 76 lv st w (jg lv 0) := q_aload_n (jd_of jb_268 dX9_jolts_75) rfl
theorem p268_76 (lv : jmL) (st : List jmV) (w : jmW) (a : Nat) : rn 268 (76, lv, jvr a :: st, w) = jq_gs (mS w a) (1, 9, 0) 268 79 lv (.inr (.inr (mR w a 19)) :: st) (w) := q_getf (v := fun w a => .inr (.inr (mR w a 19))) (jd_of jb_268 dX9_jolts_76) jo_268 jk_9_24 (fun _ _ => rfl)
theorem p268_79 (lv : jmL) (st : List jmV) (w : jmW) : rn 268 (79, lv, st, w) = jq_ldi 268 80 lv st w (jg lv 3) := q_iload_n (jd_of jb_268 dX9_jolts_79) rfl
theorem p268_80 (lv : jmL) (st : List jmV) (w : jmW) (x1 : Option Nat) (x2 : Int) : rn 268 (80, lv, .inl x2 :: .inr (.inr x1) :: st, w) = jq_b (decide (jwd st ≤ 8)) (jq_c 268 83 lv st (rn 222 (0, [(0, .inr (.inr x1)), (1, .inl x2)], [], w))) := q_calls (as := [.inr (.inr x1), .inl x2]) (rest := st) (jd_of jb_268 dX9_jolts_80) jo_268 jk_9_458 rfl rfl rfl jf_268_222 (Nat.le_of_ble_eq_true rfl)
theorem p268_83 (lv : jmL) (st : List jmV) (w : jmW) : rn 268 (83, lv, st, w) = jq_lda 268 84 lv st w (jg lv 0) := q_aload_n (jd_of jb_268 dX9_jolts_83) rfl
theorem p268_84 (lv : jmL) (st : List jmV) (w : jmW) (a : Nat) : rn 268 (84, lv, jvr a :: st, w) = jq_gs (mS w a) (1, 9, 0) 268 87 lv (.inr (.inr (mR w a 34)) :: st) (w) := q_getf (v := fun w a => .inr (.inr (mR w a 34))) (jd_of jb_268 dX9_jolts_84) jo_268 jk_9_45 (fun _ _ => rfl)
theorem p268_87 (lv : jmL) (st : List jmV) (w : jmW) : rn 268 (87, lv, st, w) = jq_lda 268 88 lv st w (jg lv 0) := q_aload_n (jd_of jb_268 dX9_jolts_87) rfl
theorem p268_88 (lv : jmL) (st : List jmV) (w : jmW) (a : Nat) : rn 268 (88, lv, jvr a :: st, w) = jq_gs (mS w a) (1, 9, 0) 268 91 lv (.inr (.inr (mR w a 19)) :: st) (w) := q_getf (v := fun w a => .inr (.inr (mR w a 19))) (jd_of jb_268 dX9_jolts_88) jo_268 jk_9_24 (fun _ _ => rfl)
theorem p268_91 (lv : jmL) (st : List jmV) (w : jmW) : rn 268 (91, lv, st, w) = rn 268 (94, lv, .inl (204) :: st, w) := q_sipush (jd_of jb_268 dX9_jolts_91) (by decide +kernel)
theorem p268_94 (lv : jmL) (st : List jmV) (w : jmW) : rn 268 (94, lv, st, w) = jq_ldi 268 95 lv st w (jg lv 3) := q_iload_n (jd_of jb_268 dX9_jolts_94) rfl
theorem p268_95 (lv : jmL) (st : List jmV) (w : jmW) (x y : Int) : rn 268 (95, lv, .inl y :: .inl x :: st, w) = rn 268 (96, lv, .inl (x + y) :: st, w) := q_iadd (jd_of jb_268 dX9_jolts_95)
theorem p268_96 (lv : jmL) (st : List jmV) (w : jmW) (a : Nat) (j : Int) : rn 268 (96, lv, .inl j :: jvr a :: st, w) = jq_gr (mS w a) 0 j 268 97 lv (.inl (mI w a (jix j)) :: st) (w) := q_iald (jd_of jb_268 dX9_jolts_96)
theorem p268_97 (lv : jmL) (st : List jmV) (w : jmW) (a : Nat) (j : Int) : rn 268 (97, lv, .inl j :: jvr a :: st, w) = jq_gr (mS w a) 0 j 268 98 lv (.inl (mI w a (jix j)) :: st) (w) := q_iald (jd_of jb_268 dX9_jolts_97)
theorem p268_98 (lv : jmL) (st : List jmV) (w : jmW) (x y : Int) : rn 268 (98, lv, .inl y :: .inl x :: st, w) = if jw y < jw x then rn 268 (101, lv, st, w) else rn 268 (124, lv, st, w) := q_icmp_le (jd_of jb_268 dX9_jolts_98) (by decide)
theorem p268_101 (lv : jmL) (st : List jmV) (w : jmW) : rn 268 (101, lv, st, w) = jq_lda 268 102 lv st w (jg lv 0) := q_aload_n (jd_of jb_268 dX9_jolts_101) rfl
theorem p268_102 (lv : jmL) (st : List jmV) (w : jmW) (a : Nat) : rn 268 (102, lv, jvr a :: st, w) = jq_gs (mS w a) (1, 9, 0) 268 105 lv (.inr (.inr (mR w a 34)) :: st) (w) := q_getf (v := fun w a => .inr (.inr (mR w a 34))) (jd_of jb_268 dX9_jolts_102) jo_268 jk_9_45 (fun _ _ => rfl)
theorem p268_105 (lv : jmL) (st : List jmV) (w : jmW) : rn 268 (105, lv, st, w) = jq_lda 268 106 lv st w (jg lv 0) := q_aload_n (jd_of jb_268 dX9_jolts_105) rfl
theorem p268_106 (lv : jmL) (st : List jmV) (w : jmW) (a : Nat) : rn 268 (106, lv, jvr a :: st, w) = jq_gs (mS w a) (1, 9, 0) 268 109 lv (.inr (.inr (mR w a 19)) :: st) (w) := q_getf (v := fun w a => .inr (.inr (mR w a 19))) (jd_of jb_268 dX9_jolts_106) jo_268 jk_9_24 (fun _ _ => rfl)
theorem p268_109 (lv : jmL) (st : List jmV) (w : jmW) : rn 268 (109, lv, st, w) = rn 268 (112, lv, .inl (204) :: st, w) := q_sipush (jd_of jb_268 dX9_jolts_109) (by decide +kernel)
theorem p268_112 (lv : jmL) (st : List jmV) (w : jmW) : rn 268 (112, lv, st, w) = jq_ldi 268 113 lv st w (jg lv 3) := q_iload_n (jd_of jb_268 dX9_jolts_112) rfl
theorem p268_113 (lv : jmL) (st : List jmV) (w : jmW) (x y : Int) : rn 268 (113, lv, .inl y :: .inl x :: st, w) = rn 268 (114, lv, .inl (x + y) :: st, w) := q_iadd (jd_of jb_268 dX9_jolts_113)
theorem p268_114 (lv : jmL) (st : List jmV) (w : jmW) (a : Nat) (j : Int) : rn 268 (114, lv, .inl j :: jvr a :: st, w) = jq_gr (mS w a) 0 j 268 115 lv (.inl (mI w a (jix j)) :: st) (w) := q_iald (jd_of jb_268 dX9_jolts_114)
theorem p268_115 (lv : jmL) (st : List jmV) (w : jmW) : rn 268 (115, lv, st, w) = jq_lda 268 116 lv st w (jg lv 0) := q_aload_n (jd_of jb_268 dX9_jolts_115) rfl
theorem p268_116 (lv : jmL) (st : List jmV) (w : jmW) (a : Nat) : rn 268 (116, lv, jvr a :: st, w) = jq_gs (mS w a) (1, 9, 0) 268 119 lv (.inr (.inr (mR w a 19)) :: st) (w) := q_getf (v := fun w a => .inr (.inr (mR w a 19))) (jd_of jb_268 dX9_jolts_116) jo_268 jk_9_24 (fun _ _ => rfl)
theorem p268_119 (lv : jmL) (st : List jmV) (w : jmW) : rn 268 (119, lv, st, w) = jq_ldi 268 120 lv st w (jg lv 3) := q_iload_n (jd_of jb_268 dX9_jolts_119) rfl
theorem p268_120 (lv : jmL) (st : List jmV) (w : jmW) (x1 : Option Nat) (x2 : Int) : rn 268 (120, lv, .inl x2 :: .inr (.inr x1) :: st, w) = jq_b (decide (jwd st ≤ 8)) (jq_c 268 123 lv st (rn 222 (0, [(0, .inr (.inr x1)), (1, .inl x2)], [], w))) := q_calls (as := [.inr (.inr x1), .inl x2]) (rest := st) (jd_of jb_268 dX9_jolts_120) jo_268 jk_9_458 rfl rfl rfl jf_268_222 (Nat.le_of_ble_eq_true rfl)
theorem p268_123 (lv : jmL) (st : List jmV) (w : jmW) (a : Nat) (j x : Int) : rn 268 (123, lv, .inl x :: .inl j :: jvr a :: st, w) = jq_gw (mS w a) 0 j 268 124 lv (st) (setI w a (jix j) x) := q_iast (jd_of jb_268 dX9_jolts_123)
theorem p268_124 (lv : jmL) (st : List jmV) (w : jmW) : rn 268 (124, lv, st, w) = jq_inc 268 127 lv 3 (1) st w (jg lv 3) := q_iinc (jd_of jb_268 dX9_jolts_124) (by rw [jm_268]; decide)
theorem p268_127 (lv : jmL) (st : List jmV) (w : jmW) : rn 268 (127, lv, st, w) = rn 268 (63, lv, st, w) := q_goto (jd_of jb_268 dX9_jolts_127) (by decide)
theorem p268_130 (lv : jmL) (st : List jmV) (w : jmW) : rn 268 (130, lv, st, w) = jq_inc 268 133 lv 2 (1) st w (jg lv 2) := q_iinc (jd_of jb_268 dX9_jolts_130) (by rw [jm_268]; decide)
theorem p268_133 (lv : jmL) (st : List jmV) (w : jmW) : rn 268 (133, lv, st, w) = rn 268 (35, lv, st, w) := q_goto (jd_of jb_268 dX9_jolts_133) (by decide)
theorem p268_136 (lv : jmL) (w : jmW) : rn 268 (136, lv, [], w) = some (none, w) := q_return (jd_of jb_268 dX9_jolts_136) jr_268
theorem p269_0 (lv : jmL) (st : List jmV) (w : jmW) : rn 269 (0, lv, st, w) = jq_lda 269 1 lv st w (jg lv 0) := q_aload_n (jd_of jb_269 dX9_joltOf_0) rfl
theorem p269_1 (lv : jmL) (st : List jmV) (w : jmW) (a : Nat) : rn 269 (1, lv, jvr a :: st, w) = jq_gs (mS w a) (1, 9, 0) 269 4 lv (.inr (.inr (mR w a 19)) :: st) (w) := q_getf (v := fun w a => .inr (.inr (mR w a 19))) (jd_of jb_269 dX9_joltOf_1) jo_269 jk_9_24 (fun _ _ => rfl)
theorem p269_4 (lv : jmL) (st : List jmV) (w : jmW) : rn 269 (4, lv, st, w) = jq_lda 269 5 lv st w (jg lv 0) := q_aload_n (jd_of jb_269 dX9_joltOf_4) rfl
theorem p269_5 (lv : jmL) (st : List jmV) (w : jmW) (a : Nat) : rn 269 (5, lv, jvr a :: st, w) = jq_gs (mS w a) (1, 9, 0) 269 8 lv (.inr (.inr (mR w a 18)) :: st) (w) := q_getf (v := fun w a => .inr (.inr (mR w a 18))) (jd_of jb_269 dX9_joltOf_5) jo_269 jk_9_21 (fun _ _ => rfl)
theorem p269_8 (lv : jmL) (st : List jmV) (w : jmW) : rn 269 (8, lv, st, w) = rn 269 (11, lv, .inl (204) :: st, w) := q_sipush (jd_of jb_269 dX9_joltOf_8) (by decide +kernel)
theorem p269_11 (lv : jmL) (st : List jmV) (w : jmW) : rn 269 (11, lv, st, w) = jq_ldi 269 12 lv st w (jg lv 1) := q_iload_n (jd_of jb_269 dX9_joltOf_11) rfl
theorem p269_12 (lv : jmL) (st : List jmV) (w : jmW) (x y : Int) : rn 269 (12, lv, .inl y :: .inl x :: st, w) = rn 269 (13, lv, .inl (x + y) :: st, w) := q_iadd (jd_of jb_269 dX9_joltOf_12)
theorem p269_13 (lv : jmL) (st : List jmV) (w : jmW) (a : Nat) (j : Int) : rn 269 (13, lv, .inl j :: jvr a :: st, w) = jq_gr (mS w a) 0 j 269 14 lv (.inl (mI w a (jix j)) :: st) (w) := q_iald (jd_of jb_269 dX9_joltOf_13)
theorem p269_14 (lv : jmL) (st : List jmV) (w : jmW) (x1 : Option Nat) (x2 : Int) : rn 269 (14, lv, .inl x2 :: .inr (.inr x1) :: st, w) = jq_b (decide (jwd st ≤ 8)) (jq_c 269 17 lv st (rn 258 (0, [(0, .inr (.inr x1)), (1, .inl x2)], [], w))) := q_calls (as := [.inr (.inr x1), .inl x2]) (rest := st) (jd_of jb_269 dX9_joltOf_14) jo_269 jk_9_523 rfl rfl rfl jf_269_258 (Nat.le_of_ble_eq_true rfl)
theorem p269_17 (lv : jmL) (st : List jmV) (w : jmW) : rn 269 (17, lv, st, w) = rn 269 (18, lv, .inl (-1) :: st, w) := q_iconst (jd_of jb_269 dX9_joltOf_17)
theorem p269_18 (lv : jmL) (st : List jmV) (w : jmW) (x y : Int) : rn 269 (18, lv, .inl y :: .inl x :: st, w) = if jw x = jw y then rn 269 (21, lv, st, w) else rn 269 (26, lv, st, w) := q_icmp_ne (jd_of jb_269 dX9_joltOf_18) (by decide)
theorem p269_21 (lv : jmL) (st : List jmV) (w : jmW) : rn 269 (21, lv, st, w) = rn 269 (23, lv, .inl (-2) :: st, w) := q_bipush (jd_of jb_269 dX9_joltOf_21) (by decide +kernel)
theorem p269_23 (lv : jmL) (st : List jmV) (w : jmW) : rn 269 (23, lv, st, w) = rn 269 (41, lv, st, w) := q_goto (jd_of jb_269 dX9_joltOf_23) (by decide)
theorem p269_26 (lv : jmL) (st : List jmV) (w : jmW) : rn 269 (26, lv, st, w) = jq_lda 269 27 lv st w (jg lv 0) := q_aload_n (jd_of jb_269 dX9_joltOf_26) rfl
theorem p269_27 (lv : jmL) (st : List jmV) (w : jmW) (a : Nat) : rn 269 (27, lv, jvr a :: st, w) = jq_gs (mS w a) (1, 9, 0) 269 30 lv (.inr (.inr (mR w a 34)) :: st) (w) := q_getf (v := fun w a => .inr (.inr (mR w a 34))) (jd_of jb_269 dX9_joltOf_27) jo_269 jk_9_45 (fun _ _ => rfl)
theorem p269_30 (lv : jmL) (st : List jmV) (w : jmW) : rn 269 (30, lv, st, w) = jq_lda 269 31 lv st w (jg lv 0) := q_aload_n (jd_of jb_269 dX9_joltOf_30) rfl
theorem p269_31 (lv : jmL) (st : List jmV) (w : jmW) (a : Nat) : rn 269 (31, lv, jvr a :: st, w) = jq_gs (mS w a) (1, 9, 0) 269 34 lv (.inr (.inr (mR w a 18)) :: st) (w) := q_getf (v := fun w a => .inr (.inr (mR w a 18))) (jd_of jb_269 dX9_joltOf_31) jo_269 jk_9_21 (fun _ _ => rfl)
theorem p269_34 (lv : jmL) (st : List jmV) (w : jmW) : rn 269 (34, lv, st, w) = rn 269 (37, lv, .inl (204) :: st, w) := q_sipush (jd_of jb_269 dX9_joltOf_34) (by decide +kernel)
theorem p269_37 (lv : jmL) (st : List jmV) (w : jmW) : rn 269 (37, lv, st, w) = jq_ldi 269 38 lv st w (jg lv 1) := q_iload_n (jd_of jb_269 dX9_joltOf_37) rfl
theorem p269_38 (lv : jmL) (st : List jmV) (w : jmW) (x y : Int) : rn 269 (38, lv, .inl y :: .inl x :: st, w) = rn 269 (39, lv, .inl (x + y) :: st, w) := q_iadd (jd_of jb_269 dX9_joltOf_38)
theorem p269_39 (lv : jmL) (st : List jmV) (w : jmW) (a : Nat) (j : Int) : rn 269 (39, lv, .inl j :: jvr a :: st, w) = jq_gr (mS w a) 0 j 269 40 lv (.inl (mI w a (jix j)) :: st) (w) := q_iald (jd_of jb_269 dX9_joltOf_39)
theorem p269_40 (lv : jmL) (st : List jmV) (w : jmW) (a : Nat) (j : Int) : rn 269 (40, lv, .inl j :: jvr a :: st, w) = jq_gr (mS w a) 0 j 269 41 lv (.inl (mI w a (jix j)) :: st) (w) := q_iald (jd_of jb_269 dX9_joltOf_40)
theorem p269_41 (lv : jmL) (w : jmW) (x : Int) : rn 269 (41, lv, [.inl x], w) = some (some (.inl x), w) := q_ireturn (jd_of jb_269 dX9_joltOf_41) jr_269
theorem p270_0 (lv : jmL) (st : List jmV) (w : jmW) : rn 270 (0, lv, st, w) = jq_lda 270 1 lv st w (jg lv 0) := q_aload_n (jd_of jb_270 dX9_grows_0) rfl
theorem p270_1 (lv : jmL) (st : List jmV) (w : jmW) : rn 270 (1, lv, st, w) = rn 270 (2, lv, .inl (0) :: st, w) := q_iconst (jd_of jb_270 dX9_grows_1)
theorem p270_2 (lv : jmL) (st : List jmV) (w : jmW) (a : Nat) (x : Int) : rn 270 (2, lv, .inl x :: jvr a :: st, w) = jq_gs (mS w a) (1, 9, 0) 270 5 lv (st) (setI w a 0 x) := q_putf (jd_of jb_270 dX9_grows_2) jo_270 jk_9_54 (Or.inl rfl) rfl
theorem p270_5 (lv : jmL) (st : List jmV) (w : jmW) : rn 270 (5, lv, st, w) = jq_lda 270 6 lv st w (jg lv 0) := q_aload_n (jd_of jb_270 dX9_grows_5) rfl
theorem p270_6 (lv : jmL) (st : List jmV) (w : jmW) : rn 270 (6, lv, st, w) = jq_ldi 270 7 lv st w (jg lv 2) := q_iload_n (jd_of jb_270 dX9_grows_6) rfl
theorem p270_7 (lv : jmL) (st : List jmV) (w : jmW) (b : Nat) (x1 : Int) : rn 270 (7, lv, .inl x1 :: jvr b :: st, w) = jq_s (mS w b) (1, 9, 0) (jq_b (decide (jwd st ≤ 8)) (jq_c 270 10 lv st (rn 220 (0, [(0, jvr b), (1, .inl x1)], [], w)))) := q_callv (as := [.inl x1]) (rest := st) (jd_of jb_270 dX9_grows_7) jo_270 jk_9_511 rfl rfl rfl jo_220 jf_270_220 (Nat.le_of_ble_eq_true rfl)
theorem p270_10 (lv : jmL) (st : List jmV) (w : jmW) (x : Int) : rn 270 (10, lv, .inl x :: st, w) = if jw x = 0 then rn 270 (27, lv, st, w) else rn 270 (13, lv, st, w) := q_if_eq (jd_of jb_270 dX9_grows_10) (by decide)
theorem p270_13 (lv : jmL) (st : List jmV) (w : jmW) : rn 270 (13, lv, st, w) = jq_ldi 270 14 lv st w (jg lv 2) := q_iload_n (jd_of jb_270 dX9_grows_13) rfl
theorem p270_14 (lv : jmL) (st : List jmV) (w : jmW) (x : Int) : rn 270 (14, lv, .inl x :: st, w) = if jw x = 0 then rn 270 (27, lv, st, w) else rn 270 (17, lv, st, w) := q_if_eq (jd_of jb_270 dX9_grows_14) (by decide)
theorem p270_17 (lv : jmL) (st : List jmV) (w : jmW) : rn 270 (17, lv, st, w) = jq_lda 270 18 lv st w (jg lv 0) := q_aload_n (jd_of jb_270 dX9_grows_17) rfl
theorem p270_18 (lv : jmL) (st : List jmV) (w : jmW) : rn 270 (18, lv, st, w) = jq_ldi 270 19 lv st w (jg lv 2) := q_iload_n (jd_of jb_270 dX9_grows_18) rfl
theorem p270_19 (lv : jmL) (st : List jmV) (w : jmW) : rn 270 (19, lv, st, w) = rn 270 (20, lv, .inl (1) :: st, w) := q_iconst (jd_of jb_270 dX9_grows_19)
theorem p270_20 (lv : jmL) (st : List jmV) (w : jmW) (x y : Int) : rn 270 (20, lv, .inl y :: .inl x :: st, w) = rn 270 (21, lv, .inl (x + y) :: st, w) := q_iadd (jd_of jb_270 dX9_grows_20)
theorem p270_21 (lv : jmL) (st : List jmV) (w : jmW) (b : Nat) (x1 : Int) : rn 270 (21, lv, .inl x1 :: jvr b :: st, w) = jq_s (mS w b) (1, 9, 0) (jq_b (decide (jwd st ≤ 8)) (jq_c 270 24 lv st (rn 220 (0, [(0, jvr b), (1, .inl x1)], [], w)))) := q_callv (as := [.inl x1]) (rest := st) (jd_of jb_270 dX9_grows_21) jo_270 jk_9_511 rfl rfl rfl jo_220 jf_270_220 (Nat.le_of_ble_eq_true rfl)
theorem p270_24 (lv : jmL) (st : List jmV) (w : jmW) (x : Int) : rn 270 (24, lv, .inl x :: st, w) = if jw x = 0 then rn 270 (27, lv, st, w) else rn 270 (33, lv, st, w) := q_if_ne (jd_of jb_270 dX9_grows_24) (by decide)
theorem p270_27 (lv : jmL) (st : List jmV) (w : jmW) : rn 270 (27, lv, st, w) = jq_lda 270 28 lv st w (jg lv 0) := q_aload_n (jd_of jb_270 dX9_grows_27) rfl
theorem p270_28 (lv : jmL) (st : List jmV) (w : jmW) : rn 270 (28, lv, st, w) = rn 270 (29, lv, .inl (1) :: st, w) := q_iconst (jd_of jb_270 dX9_grows_28)
theorem p270_29 (lv : jmL) (st : List jmV) (w : jmW) (b : Nat) (x1 : Int) : rn 270 (29, lv, .inl x1 :: jvr b :: st, w) = jq_s (mS w b) (1, 9, 0) (jq_b (decide (jwd st ≤ 8)) (jq_c 270 32 lv st (rn 176 (0, [(0, jvr b), (1, .inl x1)], [], w)))) := q_callv (as := [.inl x1]) (rest := st) (jd_of jb_270 dX9_grows_29) jo_270 jk_9_60 rfl rfl rfl jo_176 jf_270_176 (Nat.le_of_ble_eq_true rfl)
theorem p270_32 (lv : jmL) (w : jmW) (x : Int) : rn 270 (32, lv, [.inl x], w) = some (some (.inl x), w) := q_ireturn (jd_of jb_270 dX9_grows_32) jr_270
theorem p270_33 (lv : jmL) (st : List jmV) (w : jmW) : rn 270 (33, lv, st, w) = jq_ldi 270 34 lv st w (jg lv 1) := q_iload_n (jd_of jb_270 dX9_grows_33) rfl
theorem p270_34 (lv : jmL) (st : List jmV) (w : jmW) : rn 270 (34, lv, st, w) = rn 270 (35, lv, .inl (1) :: st, w) := q_iconst (jd_of jb_270 dX9_grows_34)
theorem p270_35 (lv : jmL) (st : List jmV) (w : jmW) : rn 270 (35, lv, st, w) = rn 270 (36, lv, .inl (4) :: st, w) := q_iconst (jd_of jb_270 dX9_grows_35)
theorem p270_36 (lv : jmL) (st : List jmV) (w : jmW) (x1 : Int) (x2 : Int) (x3 : Int) : rn 270 (36, lv, .inl x3 :: .inl x2 :: .inl x1 :: st, w) = jq_b (decide (jwd st ≤ 8)) (jq_c 270 39 lv st (rn 192 (0, [(0, .inl x1), (1, .inl x2), (2, .inl x3)], [], w))) := q_calls (as := [.inl x1, .inl x2, .inl x3]) (rest := st) (jd_of jb_270 dX9_grows_36) jo_270 jk_9_135 rfl rfl rfl jf_270_192 (Nat.le_of_ble_eq_true rfl)
theorem p270_39 (lv : jmL) (st : List jmV) (w : jmW) (x : Int) : rn 270 (39, lv, .inl x :: st, w) = if jw x = 0 then rn 270 (42, lv, st, w) else rn 270 (48, lv, st, w) := q_if_ne (jd_of jb_270 dX9_grows_39) (by decide)
theorem p270_42 (lv : jmL) (st : List jmV) (w : jmW) : rn 270 (42, lv, st, w) = jq_lda 270 43 lv st w (jg lv 0) := q_aload_n (jd_of jb_270 dX9_grows_42) rfl
theorem p270_43 (lv : jmL) (st : List jmV) (w : jmW) : rn 270 (43, lv, st, w) = rn 270 (44, lv, .inl (2) :: st, w) := q_iconst (jd_of jb_270 dX9_grows_43)
theorem p270_44 (lv : jmL) (st : List jmV) (w : jmW) (b : Nat) (x1 : Int) : rn 270 (44, lv, .inl x1 :: jvr b :: st, w) = jq_s (mS w b) (1, 9, 0) (jq_b (decide (jwd st ≤ 8)) (jq_c 270 47 lv st (rn 176 (0, [(0, jvr b), (1, .inl x1)], [], w)))) := q_callv (as := [.inl x1]) (rest := st) (jd_of jb_270 dX9_grows_44) jo_270 jk_9_60 rfl rfl rfl jo_176 jf_270_176 (Nat.le_of_ble_eq_true rfl)
theorem p270_47 (lv : jmL) (w : jmW) (x : Int) : rn 270 (47, lv, [.inl x], w) = some (some (.inl x), w) := q_ireturn (jd_of jb_270 dX9_grows_47) jr_270
theorem p270_48 (lv : jmL) (st : List jmV) (w : jmW) : rn 270 (48, lv, st, w) = jq_lda 270 49 lv st w (jg lv 0) := q_aload_n (jd_of jb_270 dX9_grows_48) rfl
theorem p270_49 (lv : jmL) (st : List jmV) (w : jmW) : rn 270 (49, lv, st, w) = jq_ldi 270 50 lv st w (jg lv 1) := q_iload_n (jd_of jb_270 dX9_grows_49) rfl
theorem p270_50 (lv : jmL) (st : List jmV) (w : jmW) (b : Nat) (x1 : Int) : rn 270 (50, lv, .inl x1 :: jvr b :: st, w) = jq_s (mS w b) (1, 9, 0) (jq_b (decide (jwd st ≤ 8)) (jq_c 270 53 lv st (rn 268 (0, [(0, jvr b), (1, .inl x1)], [], w)))) := q_callv (as := [.inl x1]) (rest := st) (jd_of jb_270 dX9_grows_50) jo_270 jk_9_532 rfl rfl rfl jo_268 jf_270_268 (Nat.le_of_ble_eq_true rfl)
theorem p270_53 (lv : jmL) (st : List jmV) (w : jmW) : rn 270 (53, lv, st, w) = jq_lda 270 54 lv st w (jg lv 0) := q_aload_n (jd_of jb_270 dX9_grows_53) rfl
theorem p270_54 (lv : jmL) (st : List jmV) (w : jmW) : rn 270 (54, lv, st, w) = jq_ldi 270 55 lv st w (jg lv 2) := q_iload_n (jd_of jb_270 dX9_grows_54) rfl
theorem p270_55 (lv : jmL) (st : List jmV) (w : jmW) (b : Nat) (x1 : Int) : rn 270 (55, lv, .inl x1 :: jvr b :: st, w) = jq_s (mS w b) (1, 9, 0) (jq_b (decide (jwd st ≤ 8)) (jq_c 270 58 lv st (rn 269 (0, [(0, jvr b), (1, .inl x1)], [], w)))) := q_callv (as := [.inl x1]) (rest := st) (jd_of jb_270 dX9_grows_55) jo_270 jk_9_535 rfl rfl rfl jo_269 jf_270_269 (Nat.le_of_ble_eq_true rfl)
theorem p270_58 (lv : jmL) (st : List jmV) (w : jmW) (x : Int) : rn 270 (58, lv, .inl x :: st, w) = rn 270 (59, js lv 3 (.inl x), st, w) := q_istore_n (jd_of jb_270 dX9_grows_58) rfl (by rw [jm_270]; decide)
theorem p270_59 (lv : jmL) (st : List jmV) (w : jmW) : rn 270 (59, lv, st, w) = jq_lda 270 60 lv st w (jg lv 0) := q_aload_n (jd_of jb_270 dX9_grows_59) rfl
theorem p270_60 (lv : jmL) (st : List jmV) (w : jmW) : rn 270 (60, lv, st, w) = jq_ldi 270 61 lv st w (jg lv 2) := q_iload_n (jd_of jb_270 dX9_grows_60) rfl
theorem p270_61 (lv : jmL) (st : List jmV) (w : jmW) : rn 270 (61, lv, st, w) = rn 270 (62, lv, .inl (1) :: st, w) := q_iconst (jd_of jb_270 dX9_grows_61)
theorem p270_62 (lv : jmL) (st : List jmV) (w : jmW) (x y : Int) : rn 270 (62, lv, .inl y :: .inl x :: st, w) = rn 270 (63, lv, .inl (x + y) :: st, w) := q_iadd (jd_of jb_270 dX9_grows_62)
theorem p270_63 (lv : jmL) (st : List jmV) (w : jmW) (b : Nat) (x1 : Int) : rn 270 (63, lv, .inl x1 :: jvr b :: st, w) = jq_s (mS w b) (1, 9, 0) (jq_b (decide (jwd st ≤ 8)) (jq_c 270 66 lv st (rn 269 (0, [(0, jvr b), (1, .inl x1)], [], w)))) := q_callv (as := [.inl x1]) (rest := st) (jd_of jb_270 dX9_grows_63) jo_270 jk_9_535 rfl rfl rfl jo_269 jf_270_269 (Nat.le_of_ble_eq_true rfl)
theorem p270_66 (lv : jmL) (st : List jmV) (w : jmW) (x : Int) : rn 270 (66, lv, .inl x :: st, w) = rn 270 (68, js lv 4 (.inl x), st, w) := q_istore (jd_of jb_270 dX9_grows_66) (by rw [jm_270]; decide)
theorem p270_68 (lv : jmL) (st : List jmV) (w : jmW) : rn 270 (68, lv, st, w) = jq_ldi 270 69 lv st w (jg lv 3) := q_iload_n (jd_of jb_270 dX9_grows_68) rfl
theorem p270_69 (lv : jmL) (st : List jmV) (w : jmW) : rn 270 (69, lv, st, w) = rn 270 (71, lv, .inl (-2) :: st, w) := q_bipush (jd_of jb_270 dX9_grows_69) (by decide +kernel)
theorem p270_71 (lv : jmL) (st : List jmV) (w : jmW) (x y : Int) : rn 270 (71, lv, .inl y :: .inl x :: st, w) = if jw x = jw y then rn 270 (81, lv, st, w) else rn 270 (74, lv, st, w) := q_icmp_eq (jd_of jb_270 dX9_grows_71) (by decide)
theorem p270_74 (lv : jmL) (st : List jmV) (w : jmW) : rn 270 (74, lv, st, w) = jq_ldi 270 76 lv st w (jg lv 4) := q_iload (jd_of jb_270 dX9_grows_74)
theorem p270_76 (lv : jmL) (st : List jmV) (w : jmW) : rn 270 (76, lv, st, w) = rn 270 (78, lv, .inl (-2) :: st, w) := q_bipush (jd_of jb_270 dX9_grows_76) (by decide +kernel)
theorem p270_78 (lv : jmL) (st : List jmV) (w : jmW) (x y : Int) : rn 270 (78, lv, .inl y :: .inl x :: st, w) = if jw x = jw y then rn 270 (81, lv, st, w) else rn 270 (88, lv, st, w) := q_icmp_ne (jd_of jb_270 dX9_grows_78) (by decide)
theorem p270_81 (lv : jmL) (st : List jmV) (w : jmW) : rn 270 (81, lv, st, w) = jq_lda 270 82 lv st w (jg lv 0) := q_aload_n (jd_of jb_270 dX9_grows_81) rfl
theorem p270_82 (lv : jmL) (st : List jmV) (w : jmW) : rn 270 (82, lv, st, w) = rn 270 (84, lv, .inl (-2) :: st, w) := q_bipush (jd_of jb_270 dX9_grows_82) (by decide +kernel)
theorem p270_84 (lv : jmL) (st : List jmV) (w : jmW) (b : Nat) (x1 : Int) : rn 270 (84, lv, .inl x1 :: jvr b :: st, w) = jq_s (mS w b) (1, 9, 0) (jq_b (decide (jwd st ≤ 8)) (jq_c 270 87 lv st (rn 213 (0, [(0, jvr b), (1, .inl x1)], [], w)))) := q_callv (as := [.inl x1]) (rest := st) (jd_of jb_270 dX9_grows_84) jo_270 jk_9_64 rfl rfl rfl jo_213 jf_270_213 (Nat.le_of_ble_eq_true rfl)
theorem p270_87 (lv : jmL) (w : jmW) (x : Int) : rn 270 (87, lv, [.inl x], w) = some (some (.inl x), w) := q_ireturn (jd_of jb_270 dX9_grows_87) jr_270
theorem p270_88 (lv : jmL) (st : List jmV) (w : jmW) : rn 270 (88, lv, st, w) = jq_lda 270 89 lv st w (jg lv 0) := q_aload_n (jd_of jb_270 dX9_grows_88) rfl
theorem p270_89 (lv : jmL) (st : List jmV) (w : jmW) : rn 270 (89, lv, st, w) = jq_ldi 270 91 lv st w (jg lv 4) := q_iload (jd_of jb_270 dX9_grows_89)
theorem p270_91 (lv : jmL) (st : List jmV) (w : jmW) : rn 270 (91, lv, st, w) = jq_ldi 270 92 lv st w (jg lv 3) := q_iload_n (jd_of jb_270 dX9_grows_91) rfl
theorem p270_92 (lv : jmL) (st : List jmV) (w : jmW) (x y : Int) : rn 270 (92, lv, .inl y :: .inl x :: st, w) = if jw y < jw x then rn 270 (95, lv, st, w) else rn 270 (99, lv, st, w) := q_icmp_le (jd_of jb_270 dX9_grows_92) (by decide)
theorem p270_95 (lv : jmL) (st : List jmV) (w : jmW) : rn 270 (95, lv, st, w) = rn 270 (96, lv, .inl (1) :: st, w) := q_iconst (jd_of jb_270 dX9_grows_95)
theorem p270_96 (lv : jmL) (st : List jmV) (w : jmW) : rn 270 (96, lv, st, w) = rn 270 (110, lv, st, w) := q_goto (jd_of jb_270 dX9_grows_96) (by decide)
theorem p270_99 (lv : jmL) (st : List jmV) (w : jmW) : rn 270 (99, lv, st, w) = jq_ldi 270 101 lv st w (jg lv 4) := q_iload (jd_of jb_270 dX9_grows_99)
theorem p270_101 (lv : jmL) (st : List jmV) (w : jmW) : rn 270 (101, lv, st, w) = jq_ldi 270 102 lv st w (jg lv 3) := q_iload_n (jd_of jb_270 dX9_grows_101) rfl
theorem p270_102 (lv : jmL) (st : List jmV) (w : jmW) (x y : Int) : rn 270 (102, lv, .inl y :: .inl x :: st, w) = if jw x < jw y then rn 270 (105, lv, st, w) else rn 270 (109, lv, st, w) := q_icmp_ge (jd_of jb_270 dX9_grows_102) (by decide)
theorem p270_105 (lv : jmL) (st : List jmV) (w : jmW) : rn 270 (105, lv, st, w) = rn 270 (106, lv, .inl (-1) :: st, w) := q_iconst (jd_of jb_270 dX9_grows_105)
theorem p270_106 (lv : jmL) (st : List jmV) (w : jmW) : rn 270 (106, lv, st, w) = rn 270 (110, lv, st, w) := q_goto (jd_of jb_270 dX9_grows_106) (by decide)
theorem p270_109 (lv : jmL) (st : List jmV) (w : jmW) : rn 270 (109, lv, st, w) = rn 270 (110, lv, .inl (0) :: st, w) := q_iconst (jd_of jb_270 dX9_grows_109)
theorem p270_110 (lv : jmL) (st : List jmV) (w : jmW) (b : Nat) (x1 : Int) : rn 270 (110, lv, .inl x1 :: jvr b :: st, w) = jq_s (mS w b) (1, 9, 0) (jq_b (decide (jwd st ≤ 8)) (jq_c 270 113 lv st (rn 213 (0, [(0, jvr b), (1, .inl x1)], [], w)))) := q_callv (as := [.inl x1]) (rest := st) (jd_of jb_270 dX9_grows_110) jo_270 jk_9_64 rfl rfl rfl jo_213 jf_270_213 (Nat.le_of_ble_eq_true rfl)
theorem p270_113 (lv : jmL) (w : jmW) (x : Int) : rn 270 (113, lv, [.inl x], w) = some (some (.inl x), w) := q_ireturn (jd_of jb_270 dX9_grows_113) jr_270
theorem p271_0 (lv : jmL) (st : List jmV) (w : jmW) : rn 271 (0, lv, st, w) = jq_lda 271 1 lv st w (jg lv 0) := q_aload_n (jd_of jb_271 dX9_holds_0) rfl
theorem p271_1 (lv : jmL) (st : List jmV) (w : jmW) : rn 271 (1, lv, st, w) = rn 271 (2, lv, .inl (0) :: st, w) := q_iconst (jd_of jb_271 dX9_holds_1)
theorem p271_2 (lv : jmL) (st : List jmV) (w : jmW) (a : Nat) (x : Int) : rn 271 (2, lv, .inl x :: jvr a :: st, w) = jq_gs (mS w a) (1, 9, 0) 271 5 lv (st) (setI w a 0 x) := q_putf (jd_of jb_271 dX9_holds_2) jo_271 jk_9_54 (Or.inl rfl) rfl
theorem p271_5 (lv : jmL) (st : List jmV) (w : jmW) : rn 271 (5, lv, st, w) = jq_lda 271 6 lv st w (jg lv 0) := q_aload_n (jd_of jb_271 dX9_holds_5) rfl
theorem p271_6 (lv : jmL) (st : List jmV) (w : jmW) (a : Nat) : rn 271 (6, lv, jvr a :: st, w) = jq_gs (mS w a) (1, 9, 0) 271 9 lv (.inr (.inr (mR w a 3)) :: st) (w) := q_getf (v := fun w a => .inr (.inr (mR w a 3))) (jd_of jb_271 dX9_holds_6) jo_271 jk_9_389 (fun _ _ => rfl)
theorem p271_9n (lv : jmL) (st : List jmV) (w : jmW) : rn 271 (9, lv, .inr (.inr none) :: st, w) = rn 271 (12, lv, st, w) := q_ifnonnull_n (tgt := 18) (jd_of jb_271 dX9_holds_9) (by decide)
theorem p271_9s (lv : jmL) (st : List jmV) (w : jmW) (a : Nat) : rn 271 (9, lv, .inr (.inr (some a)) :: st, w) = rn 271 (18, lv, st, w) := q_ifnonnull_s (tgt := 18) (jd_of jb_271 dX9_holds_9) (by decide)
theorem p271_12 (lv : jmL) (st : List jmV) (w : jmW) : rn 271 (12, lv, st, w) = jq_lda 271 13 lv st w (jg lv 0) := q_aload_n (jd_of jb_271 dX9_holds_12) rfl
theorem p271_13 (lv : jmL) (st : List jmV) (w : jmW) : rn 271 (13, lv, st, w) = rn 271 (14, lv, .inl (1) :: st, w) := q_iconst (jd_of jb_271 dX9_holds_13)
theorem p271_14 (lv : jmL) (st : List jmV) (w : jmW) (b : Nat) (x1 : Int) : rn 271 (14, lv, .inl x1 :: jvr b :: st, w) = jq_s (mS w b) (1, 9, 0) (jq_b (decide (jwd st ≤ 8)) (jq_c 271 17 lv st (rn 176 (0, [(0, jvr b), (1, .inl x1)], [], w)))) := q_callv (as := [.inl x1]) (rest := st) (jd_of jb_271 dX9_holds_14) jo_271 jk_9_60 rfl rfl rfl jo_176 jf_271_176 (Nat.le_of_ble_eq_true rfl)
theorem p271_17 (lv : jmL) (w : jmW) (x : Int) : rn 271 (17, lv, [.inl x], w) = some (some (.inl x), w) := q_ireturn (jd_of jb_271 dX9_holds_17) jr_271
theorem p271_18 (lv : jmL) (st : List jmV) (w : jmW) : rn 271 (18, lv, st, w) = rn 271 (19, lv, .inl (3) :: st, w) := q_iconst (jd_of jb_271 dX9_holds_18)
theorem p271_19 (lv : jmL) (st : List jmV) (w : jmW) (x : Int) : rn 271 (19, lv, .inl x :: st, w) = rn 271 (20, js lv 1 (.inl x), st, w) := q_istore_n (jd_of jb_271 dX9_holds_19) rfl (by rw [jm_271]; decide)
theorem p271_20 (lv : jmL) (st : List jmV) (w : jmW) : rn 271 (20, lv, st, w) = jq_ldi 271 21 lv st w (jg lv 1) := q_iload_n (jd_of jb_271 dX9_holds_20) rfl
theorem p271_21 (lv : jmL) (st : List jmV) (w : jmW) (x : Int) : rn 271 (21, lv, .inl x :: st, w) = if 0 < jw x then rn 271 (24, lv, st, w) else rn 271 (79, lv, st, w) := q_if_le (jd_of jb_271 dX9_holds_21) (by decide)
theorem p271_24 (lv : jmL) (st : List jmV) (w : jmW) : rn 271 (24, lv, st, w) = jq_lda 271 25 lv st w (jg lv 0) := q_aload_n (jd_of jb_271 dX9_holds_24) rfl
theorem p271_25 (lv : jmL) (st : List jmV) (w : jmW) (b : Nat) : rn 271 (25, lv, jvr b :: st, w) = jq_s (mS w b) (1, 9, 0) (jq_b (decide (jwd st ≤ 8)) (jq_c 271 28 lv st (rn 236 (0, [(0, jvr b)], [], w)))) := q_callv (as := []) (rest := st) (jd_of jb_271 dX9_holds_25) jo_271 jk_9_498 rfl rfl rfl jo_236 jf_271_236 (Nat.le_of_ble_eq_true rfl)
theorem p271_28 (lv : jmL) (st : List jmV) (w : jmW) : rn 271 (28, lv, st, w) = jq_lda 271 29 lv st w (jg lv 0) := q_aload_n (jd_of jb_271 dX9_holds_28) rfl
theorem p271_29 (lv : jmL) (st : List jmV) (w : jmW) (b : Nat) : rn 271 (29, lv, jvr b :: st, w) = jq_s (mS w b) (1, 9, 0) (jq_b (decide (jwd st ≤ 8)) (jq_c 271 32 lv st (rn 237 (0, [(0, jvr b)], [], w)))) := q_callv (as := []) (rest := st) (jd_of jb_271 dX9_holds_29) jo_271 jk_9_501 rfl rfl rfl jo_237 jf_271_237 (Nat.le_of_ble_eq_true rfl)
theorem p271_32 (lv : jmL) (st : List jmV) (w : jmW) : rn 271 (32, lv, st, w) = jq_lda 271 33 lv st w (jg lv 0) := q_aload_n (jd_of jb_271 dX9_holds_32) rfl
theorem p271_33 (lv : jmL) (st : List jmV) (w : jmW) : rn 271 (33, lv, st, w) = jq_ldi 271 34 lv st w (jg lv 1) := q_iload_n (jd_of jb_271 dX9_holds_33) rfl
theorem p271_34 (lv : jmL) (st : List jmV) (w : jmW) (a : Nat) (x : Int) : rn 271 (34, lv, .inl x :: jvr a :: st, w) = jq_gs (mS w a) (1, 9, 0) 271 37 lv (st) (setI w a 26 x) := q_putf (jd_of jb_271 dX9_holds_34) jo_271 jk_9_480 (Or.inl rfl) rfl
theorem p271_37 (lv : jmL) (st : List jmV) (w : jmW) : rn 271 (37, lv, st, w) = rn 271 (38, lv, .inl (0) :: st, w) := q_iconst (jd_of jb_271 dX9_holds_37)
theorem p271_38 (lv : jmL) (st : List jmV) (w : jmW) (x : Int) : rn 271 (38, lv, .inl x :: st, w) = rn 271 (39, js lv 2 (.inl x), st, w) := q_istore_n (jd_of jb_271 dX9_holds_38) rfl (by rw [jm_271]; decide)
theorem p271_39 (lv : jmL) (st : List jmV) (w : jmW) : rn 271 (39, lv, st, w) = jq_ldi 271 40 lv st w (jg lv 2) := q_iload_n (jd_of jb_271 dX9_holds_39) rfl
theorem p271_40 (lv : jmL) (st : List jmV) (w : jmW) : rn 271 (40, lv, st, w) = rn 271 (42, lv, .inl (12) :: st, w) := q_bipush (jd_of jb_271 dX9_holds_40) (by decide +kernel)
theorem p271_42 (lv : jmL) (st : List jmV) (w : jmW) (x y : Int) : rn 271 (42, lv, .inl y :: .inl x :: st, w) = if jw x < jw y then rn 271 (45, lv, st, w) else rn 271 (60, lv, st, w) := q_icmp_ge (jd_of jb_271 dX9_holds_42) (by decide)
theorem p271_45 (lv : jmL) (st : List jmV) (w : jmW) : rn 271 (45, lv, st, w) = jq_lda 271 46 lv st w (jg lv 0) := q_aload_n (jd_of jb_271 dX9_holds_45) rfl
theorem p271_46 (lv : jmL) (st : List jmV) (w : jmW) : rn 271 (46, lv, st, w) = jq_lda 271 47 lv st w (jg lv 0) := q_aload_n (jd_of jb_271 dX9_holds_46) rfl
theorem p271_47 (lv : jmL) (st : List jmV) (w : jmW) (a : Nat) : rn 271 (47, lv, jvr a :: st, w) = jq_gs (mS w a) (1, 9, 0) 271 50 lv (.inr (.inr (mR w a 19)) :: st) (w) := q_getf (v := fun w a => .inr (.inr (mR w a 19))) (jd_of jb_271 dX9_holds_47) jo_271 jk_9_24 (fun _ _ => rfl)
theorem p271_50 (lv : jmL) (st : List jmV) (w : jmW) : rn 271 (50, lv, st, w) = rn 271 (51, lv, .inl (0) :: st, w) := q_iconst (jd_of jb_271 dX9_holds_50)
theorem p271_51 (lv : jmL) (st : List jmV) (w : jmW) (b : Nat) (x1 : Option Nat) (x2 : Int) : rn 271 (51, lv, .inl x2 :: .inr (.inr x1) :: jvr b :: st, w) = jq_s (mS w b) (1, 9, 0) (jq_b (decide (jwd st ≤ 8)) (jq_c 271 54 lv st (rn 238 (0, [(0, jvr b), (1, .inr (.inr x1)), (2, .inl x2)], [], w)))) := q_callv (as := [.inr (.inr x1), .inl x2]) (rest := st) (jd_of jb_271 dX9_holds_51) jo_271 jk_9_504 rfl rfl rfl jo_238 jf_271_238 (Nat.le_of_ble_eq_true rfl)
theorem p271_54 (lv : jmL) (st : List jmV) (w : jmW) : rn 271 (54, lv, st, w) = jq_inc 271 57 lv 2 (1) st w (jg lv 2) := q_iinc (jd_of jb_271 dX9_holds_54) (by rw [jm_271]; decide)
theorem p271_57 (lv : jmL) (st : List jmV) (w : jmW) : rn 271 (57, lv, st, w) = rn 271 (39, lv, st, w) := q_goto (jd_of jb_271 dX9_holds_57) (by decide)
theorem p271_60 (lv : jmL) (st : List jmV) (w : jmW) : rn 271 (60, lv, st, w) = jq_lda 271 61 lv st w (jg lv 0) := q_aload_n (jd_of jb_271 dX9_holds_60) rfl
theorem p271_61 (lv : jmL) (st : List jmV) (w : jmW) (a : Nat) : rn 271 (61, lv, jvr a :: st, w) = jq_gs (mS w a) (1, 9, 0) 271 64 lv (.inl (mI w a 31) :: st) (w) := q_getf (v := fun w a => .inl (mI w a 31)) (jd_of jb_271 dX9_holds_61) jo_271 jk_9_461 (fun _ _ => rfl)
theorem p271_64 (lv : jmL) (st : List jmV) (w : jmW) (x : Int) : rn 271 (64, lv, .inl x :: st, w) = if jw x = 0 then rn 271 (67, lv, st, w) else rn 271 (73, lv, st, w) := q_if_ne (jd_of jb_271 dX9_holds_64) (by decide)
theorem p271_67 (lv : jmL) (st : List jmV) (w : jmW) : rn 271 (67, lv, st, w) = jq_lda 271 68 lv st w (jg lv 0) := q_aload_n (jd_of jb_271 dX9_holds_67) rfl
theorem p271_68 (lv : jmL) (st : List jmV) (w : jmW) : rn 271 (68, lv, st, w) = jq_ldi 271 69 lv st w (jg lv 1) := q_iload_n (jd_of jb_271 dX9_holds_68) rfl
theorem p271_69 (lv : jmL) (st : List jmV) (w : jmW) (b : Nat) (x1 : Int) : rn 271 (69, lv, .inl x1 :: jvr b :: st, w) = jq_s (mS w b) (1, 9, 0) (jq_b (decide (jwd st ≤ 8)) (jq_c 271 72 lv st (rn 213 (0, [(0, jvr b), (1, .inl x1)], [], w)))) := q_callv (as := [.inl x1]) (rest := st) (jd_of jb_271 dX9_holds_69) jo_271 jk_9_64 rfl rfl rfl jo_213 jf_271_213 (Nat.le_of_ble_eq_true rfl)
theorem p271_72 (lv : jmL) (w : jmW) (x : Int) : rn 271 (72, lv, [.inl x], w) = some (some (.inl x), w) := q_ireturn (jd_of jb_271 dX9_holds_72) jr_271
theorem p271_73 (lv : jmL) (st : List jmV) (w : jmW) : rn 271 (73, lv, st, w) = jq_inc 271 76 lv 1 (-1) st w (jg lv 1) := q_iinc (jd_of jb_271 dX9_holds_73) (by rw [jm_271]; decide)
theorem p271_76 (lv : jmL) (st : List jmV) (w : jmW) : rn 271 (76, lv, st, w) = rn 271 (20, lv, st, w) := q_goto (jd_of jb_271 dX9_holds_76) (by decide)
theorem p271_79 (lv : jmL) (st : List jmV) (w : jmW) : rn 271 (79, lv, st, w) = jq_lda 271 80 lv st w (jg lv 0) := q_aload_n (jd_of jb_271 dX9_holds_79) rfl
theorem p271_80 (lv : jmL) (st : List jmV) (w : jmW) : rn 271 (80, lv, st, w) = rn 271 (82, lv, .inl (-2) :: st, w) := q_bipush (jd_of jb_271 dX9_holds_80) (by decide +kernel)
theorem p271_82 (lv : jmL) (st : List jmV) (w : jmW) (b : Nat) (x1 : Int) : rn 271 (82, lv, .inl x1 :: jvr b :: st, w) = jq_s (mS w b) (1, 9, 0) (jq_b (decide (jwd st ≤ 8)) (jq_c 271 85 lv st (rn 213 (0, [(0, jvr b), (1, .inl x1)], [], w)))) := q_callv (as := [.inl x1]) (rest := st) (jd_of jb_271 dX9_holds_82) jo_271 jk_9_64 rfl rfl rfl jo_213 jf_271_213 (Nat.le_of_ble_eq_true rfl)
theorem p271_85 (lv : jmL) (w : jmW) (x : Int) : rn 271 (85, lv, [.inl x], w) = some (some (.inl x), w) := q_ireturn (jd_of jb_271 dX9_holds_85) jr_271
theorem p272_0 (lv : jmL) (st : List jmV) (w : jmW) : rn 272 (0, lv, st, w) = jq_lda 272 1 lv st w (jg lv 0) := q_aload_n (jd_of jb_272 dX9_order_0) rfl
theorem p272_1 (lv : jmL) (st : List jmV) (w : jmW) : rn 272 (1, lv, st, w) = rn 272 (2, lv, .inl (0) :: st, w) := q_iconst (jd_of jb_272 dX9_order_1)
theorem p272_2 (lv : jmL) (st : List jmV) (w : jmW) (a : Nat) (x : Int) : rn 272 (2, lv, .inl x :: jvr a :: st, w) = jq_gs (mS w a) (1, 9, 0) 272 5 lv (st) (setI w a 0 x) := q_putf (jd_of jb_272 dX9_order_2) jo_272 jk_9_54 (Or.inl rfl) rfl
theorem p272_5 (lv : jmL) (st : List jmV) (w : jmW) : rn 272 (5, lv, st, w) = jq_lda 272 6 lv st w (jg lv 0) := q_aload_n (jd_of jb_272 dX9_order_5) rfl
theorem p272_6 (lv : jmL) (st : List jmV) (w : jmW) (a : Nat) : rn 272 (6, lv, jvr a :: st, w) = jq_gs (mS w a) (1, 9, 0) 272 9 lv (.inr (.inr (mR w a 3)) :: st) (w) := q_getf (v := fun w a => .inr (.inr (mR w a 3))) (jd_of jb_272 dX9_order_6) jo_272 jk_9_389 (fun _ _ => rfl)
theorem p272_9n (lv : jmL) (st : List jmV) (w : jmW) : rn 272 (9, lv, .inr (.inr none) :: st, w) = rn 272 (12, lv, st, w) := q_ifnonnull_n (tgt := 18) (jd_of jb_272 dX9_order_9) (by decide)
theorem p272_9s (lv : jmL) (st : List jmV) (w : jmW) (a : Nat) : rn 272 (9, lv, .inr (.inr (some a)) :: st, w) = rn 272 (18, lv, st, w) := q_ifnonnull_s (tgt := 18) (jd_of jb_272 dX9_order_9) (by decide)
theorem p272_12 (lv : jmL) (st : List jmV) (w : jmW) : rn 272 (12, lv, st, w) = jq_lda 272 13 lv st w (jg lv 0) := q_aload_n (jd_of jb_272 dX9_order_12) rfl
theorem p272_13 (lv : jmL) (st : List jmV) (w : jmW) : rn 272 (13, lv, st, w) = rn 272 (14, lv, .inl (1) :: st, w) := q_iconst (jd_of jb_272 dX9_order_13)
theorem p272_14 (lv : jmL) (st : List jmV) (w : jmW) (b : Nat) (x1 : Int) : rn 272 (14, lv, .inl x1 :: jvr b :: st, w) = jq_s (mS w b) (1, 9, 0) (jq_b (decide (jwd st ≤ 8)) (jq_c 272 17 lv st (rn 176 (0, [(0, jvr b), (1, .inl x1)], [], w)))) := q_callv (as := [.inl x1]) (rest := st) (jd_of jb_272 dX9_order_14) jo_272 jk_9_60 rfl rfl rfl jo_176 jf_272_176 (Nat.le_of_ble_eq_true rfl)
theorem p272_17 (lv : jmL) (w : jmW) (x : Int) : rn 272 (17, lv, [.inl x], w) = some (some (.inl x), w) := q_ireturn (jd_of jb_272 dX9_order_17) jr_272
theorem p272_18 (lv : jmL) (st : List jmV) (w : jmW) : rn 272 (18, lv, st, w) = jq_lda 272 19 lv st w (jg lv 0) := q_aload_n (jd_of jb_272 dX9_order_18) rfl
theorem p272_19 (lv : jmL) (st : List jmV) (w : jmW) (a : Nat) : rn 272 (19, lv, jvr a :: st, w) = jq_gs (mS w a) (1, 9, 0) 272 22 lv (.inr (.inr (mR w a 18)) :: st) (w) := q_getf (v := fun w a => .inr (.inr (mR w a 18))) (jd_of jb_272 dX9_order_19) jo_272 jk_9_21 (fun _ _ => rfl)
theorem p272_22 (lv : jmL) (st : List jmV) (w : jmW) : rn 272 (22, lv, st, w) = rn 272 (25, lv, .inl (289) :: st, w) := q_sipush (jd_of jb_272 dX9_order_22) (by decide +kernel)
theorem p272_25 (lv : jmL) (st : List jmV) (w : jmW) (a : Nat) (j : Int) : rn 272 (25, lv, .inl j :: jvr a :: st, w) = jq_gr (mS w a) 0 j 272 26 lv (.inl (mI w a (jix j)) :: st) (w) := q_iald (jd_of jb_272 dX9_order_25)
theorem p272_26 (lv : jmL) (st : List jmV) (w : jmW) : rn 272 (26, lv, st, w) = rn 272 (28, lv, .inl (7) :: st, w) := q_bipush (jd_of jb_272 dX9_order_26) (by decide +kernel)
theorem p272_28 (lv : jmL) (st : List jmV) (w : jmW) (x y : Int) : rn 272 (28, lv, .inl y :: .inl x :: st, w) = if jw y < jw x then rn 272 (31, lv, st, w) else rn 272 (37, lv, st, w) := q_icmp_le (jd_of jb_272 dX9_order_28) (by decide)
theorem p272_31 (lv : jmL) (st : List jmV) (w : jmW) : rn 272 (31, lv, st, w) = jq_lda 272 32 lv st w (jg lv 0) := q_aload_n (jd_of jb_272 dX9_order_31) rfl
theorem p272_32 (lv : jmL) (st : List jmV) (w : jmW) : rn 272 (32, lv, st, w) = rn 272 (33, lv, .inl (3) :: st, w) := q_iconst (jd_of jb_272 dX9_order_32)
theorem p272_33 (lv : jmL) (st : List jmV) (w : jmW) (b : Nat) (x1 : Int) : rn 272 (33, lv, .inl x1 :: jvr b :: st, w) = jq_s (mS w b) (1, 9, 0) (jq_b (decide (jwd st ≤ 8)) (jq_c 272 36 lv st (rn 176 (0, [(0, jvr b), (1, .inl x1)], [], w)))) := q_callv (as := [.inl x1]) (rest := st) (jd_of jb_272 dX9_order_33) jo_272 jk_9_60 rfl rfl rfl jo_176 jf_272_176 (Nat.le_of_ble_eq_true rfl)
theorem p272_36 (lv : jmL) (w : jmW) (x : Int) : rn 272 (36, lv, [.inl x], w) = some (some (.inl x), w) := q_ireturn (jd_of jb_272 dX9_order_36) jr_272
theorem p272_37 (lv : jmL) (st : List jmV) (w : jmW) : rn 272 (37, lv, st, w) = jq_lda 272 38 lv st w (jg lv 0) := q_aload_n (jd_of jb_272 dX9_order_37) rfl
theorem p272_38 (lv : jmL) (st : List jmV) (w : jmW) (b : Nat) : rn 272 (38, lv, jvr b :: st, w) = jq_s (mS w b) (1, 9, 0) (jq_b (decide (jwd st ≤ 8)) (jq_c 272 41 lv st (rn 273 (0, [(0, jvr b)], [], w)))) := q_callv (as := []) (rest := st) (jd_of jb_272 dX9_order_38) jo_272 jk_9_548 rfl rfl rfl jo_273 jf_272_273 (Nat.le_of_ble_eq_true rfl)
theorem p272_41 (lv : jmL) (st : List jmV) (w : jmW) : rn 272 (41, lv, st, w) = jq_lda 272 42 lv st w (jg lv 0) := q_aload_n (jd_of jb_272 dX9_order_41) rfl
theorem p272_42 (lv : jmL) (st : List jmV) (w : jmW) : rn 272 (42, lv, st, w) = jq_lda 272 43 lv st w (jg lv 0) := q_aload_n (jd_of jb_272 dX9_order_42) rfl
theorem p272_43 (lv : jmL) (st : List jmV) (w : jmW) (a : Nat) : rn 272 (43, lv, jvr a :: st, w) = jq_gs (mS w a) (1, 9, 0) 272 46 lv (.inl (mI w a 37) :: st) (w) := q_getf (v := fun w a => .inl (mI w a 37)) (jd_of jb_272 dX9_order_43) jo_272 jk_9_538 (fun _ _ => rfl)
theorem p272_46 (lv : jmL) (st : List jmV) (w : jmW) (b : Nat) (x1 : Int) : rn 272 (46, lv, .inl x1 :: jvr b :: st, w) = jq_s (mS w b) (1, 9, 0) (jq_b (decide (jwd st ≤ 8)) (jq_c 272 49 lv st (rn 213 (0, [(0, jvr b), (1, .inl x1)], [], w)))) := q_callv (as := [.inl x1]) (rest := st) (jd_of jb_272 dX9_order_46) jo_272 jk_9_64 rfl rfl rfl jo_213 jf_272_213 (Nat.le_of_ble_eq_true rfl)
theorem p272_49 (lv : jmL) (w : jmW) (x : Int) : rn 272 (49, lv, [.inl x], w) = some (some (.inl x), w) := q_ireturn (jd_of jb_272 dX9_order_49) jr_272
theorem p273_0 (lv : jmL) (st : List jmV) (w : jmW) : rn 273 (0, lv, st, w) = rn 273 (1, lv, .inl (0) :: st, w) := q_iconst (jd_of jb_273 dX9_findsOrder_0)
theorem p273_1 (lv : jmL) (st : List jmV) (w : jmW) (x : Int) : rn 273 (1, lv, .inl x :: st, w) = rn 273 (2, js lv 1 (.inl x), st, w) := q_istore_n (jd_of jb_273 dX9_findsOrder_1) rfl (by rw [jm_273]; decide)
theorem p273_2 (lv : jmL) (st : List jmV) (w : jmW) : rn 273 (2, lv, st, w) = jq_ldi 273 3 lv st w (jg lv 1) := q_iload_n (jd_of jb_273 dX9_findsOrder_2) rfl
theorem p273_3 (lv : jmL) (st : List jmV) (w : jmW) : rn 273 (3, lv, st, w) = jq_lda 273 4 lv st w (jg lv 0) := q_aload_n (jd_of jb_273 dX9_findsOrder_3) rfl
theorem p273_4 (lv : jmL) (st : List jmV) (w : jmW) (a : Nat) : rn 273 (4, lv, jvr a :: st, w) = jq_gs (mS w a) (1, 9, 0) 273 7 lv (.inr (.inr (mR w a 18)) :: st) (w) := q_getf (v := fun w a => .inr (.inr (mR w a 18))) (jd_of jb_273 dX9_findsOrder_4) jo_273 jk_9_21 (fun _ _ => rfl)
theorem p273_7 (lv : jmL) (st : List jmV) (w : jmW) : rn 273 (7, lv, st, w) = rn 273 (10, lv, .inl (289) :: st, w) := q_sipush (jd_of jb_273 dX9_findsOrder_7) (by decide +kernel)
theorem p273_10 (lv : jmL) (st : List jmV) (w : jmW) (a : Nat) (j : Int) : rn 273 (10, lv, .inl j :: jvr a :: st, w) = jq_gr (mS w a) 0 j 273 11 lv (.inl (mI w a (jix j)) :: st) (w) := q_iald (jd_of jb_273 dX9_findsOrder_10)
theorem p273_11 (lv : jmL) (st : List jmV) (w : jmW) (x y : Int) : rn 273 (11, lv, .inl y :: .inl x :: st, w) = if jw x < jw y then rn 273 (14, lv, st, w) else rn 273 (27, lv, st, w) := q_icmp_ge (jd_of jb_273 dX9_findsOrder_11) (by decide)
theorem p273_14 (lv : jmL) (st : List jmV) (w : jmW) : rn 273 (14, lv, st, w) = jq_lda 273 15 lv st w (jg lv 0) := q_aload_n (jd_of jb_273 dX9_findsOrder_14) rfl
theorem p273_15 (lv : jmL) (st : List jmV) (w : jmW) (a : Nat) : rn 273 (15, lv, jvr a :: st, w) = jq_gs (mS w a) (1, 9, 0) 273 18 lv (.inr (.inr (mR w a 35)) :: st) (w) := q_getf (v := fun w a => .inr (.inr (mR w a 35))) (jd_of jb_273 dX9_findsOrder_15) jo_273 jk_9_48 (fun _ _ => rfl)
theorem p273_18 (lv : jmL) (st : List jmV) (w : jmW) : rn 273 (18, lv, st, w) = jq_ldi 273 19 lv st w (jg lv 1) := q_iload_n (jd_of jb_273 dX9_findsOrder_18) rfl
theorem p273_19 (lv : jmL) (st : List jmV) (w : jmW) : rn 273 (19, lv, st, w) = jq_ldi 273 20 lv st w (jg lv 1) := q_iload_n (jd_of jb_273 dX9_findsOrder_19) rfl
theorem p273_20 (lv : jmL) (st : List jmV) (w : jmW) (a : Nat) (j x : Int) : rn 273 (20, lv, .inl x :: .inl j :: jvr a :: st, w) = jq_gw (mS w a) 0 j 273 21 lv (st) (setI w a (jix j) x) := q_iast (jd_of jb_273 dX9_findsOrder_20)
theorem p273_21 (lv : jmL) (st : List jmV) (w : jmW) : rn 273 (21, lv, st, w) = jq_inc 273 24 lv 1 (1) st w (jg lv 1) := q_iinc (jd_of jb_273 dX9_findsOrder_21) (by rw [jm_273]; decide)
theorem p273_24 (lv : jmL) (st : List jmV) (w : jmW) : rn 273 (24, lv, st, w) = rn 273 (2, lv, st, w) := q_goto (jd_of jb_273 dX9_findsOrder_24) (by decide)
theorem p273_27 (lv : jmL) (st : List jmV) (w : jmW) : rn 273 (27, lv, st, w) = jq_lda 273 28 lv st w (jg lv 0) := q_aload_n (jd_of jb_273 dX9_findsOrder_27) rfl
theorem p273_28 (lv : jmL) (st : List jmV) (w : jmW) : rn 273 (28, lv, st, w) = rn 273 (29, lv, .inl (-1) :: st, w) := q_iconst (jd_of jb_273 dX9_findsOrder_28)
theorem p273_29 (lv : jmL) (st : List jmV) (w : jmW) (a : Nat) (x : Int) : rn 273 (29, lv, .inl x :: jvr a :: st, w) = jq_gs (mS w a) (1, 9, 0) 273 32 lv (st) (setI w a 37 x) := q_putf (jd_of jb_273 dX9_findsOrder_29) jo_273 jk_9_538 (Or.inl rfl) rfl
theorem p273_32 (lv : jmL) (st : List jmV) (w : jmW) : rn 273 (32, lv, st, w) = rn 273 (33, lv, .inl (1) :: st, w) := q_iconst (jd_of jb_273 dX9_findsOrder_32)
theorem p273_33 (lv : jmL) (st : List jmV) (w : jmW) (x : Int) : rn 273 (33, lv, .inl x :: st, w) = rn 273 (34, js lv 1 (.inl x), st, w) := q_istore_n (jd_of jb_273 dX9_findsOrder_33) rfl (by rw [jm_273]; decide)
theorem p273_34 (lv : jmL) (st : List jmV) (w : jmW) : rn 273 (34, lv, st, w) = jq_ldi 273 35 lv st w (jg lv 1) := q_iload_n (jd_of jb_273 dX9_findsOrder_34) rfl
theorem p273_35 (lv : jmL) (st : List jmV) (w : jmW) (x : Int) : rn 273 (35, lv, .inl x :: st, w) = if jw x = 0 then rn 273 (286, lv, st, w) else rn 273 (38, lv, st, w) := q_if_eq (jd_of jb_273 dX9_findsOrder_35) (by decide)
theorem p273_38 (lv : jmL) (st : List jmV) (w : jmW) : rn 273 (38, lv, st, w) = jq_lda 273 39 lv st w (jg lv 0) := q_aload_n (jd_of jb_273 dX9_findsOrder_38) rfl
theorem p273_39 (lv : jmL) (st : List jmV) (w : jmW) (b : Nat) : rn 273 (39, lv, jvr b :: st, w) = jq_s (mS w b) (1, 9, 0) (jq_b (decide (jwd st ≤ 8)) (jq_c 273 42 lv st (rn 236 (0, [(0, jvr b)], [], w)))) := q_callv (as := []) (rest := st) (jd_of jb_273 dX9_findsOrder_39) jo_273 jk_9_498 rfl rfl rfl jo_236 jf_273_236 (Nat.le_of_ble_eq_true rfl)
theorem p273_42 (lv : jmL) (st : List jmV) (w : jmW) : rn 273 (42, lv, st, w) = jq_lda 273 43 lv st w (jg lv 0) := q_aload_n (jd_of jb_273 dX9_findsOrder_42) rfl
theorem p273_43 (lv : jmL) (st : List jmV) (w : jmW) (b : Nat) : rn 273 (43, lv, jvr b :: st, w) = jq_s (mS w b) (1, 9, 0) (jq_b (decide (jwd st ≤ 8)) (jq_c 273 46 lv st (rn 237 (0, [(0, jvr b)], [], w)))) := q_callv (as := []) (rest := st) (jd_of jb_273 dX9_findsOrder_43) jo_273 jk_9_501 rfl rfl rfl jo_237 jf_273_237 (Nat.le_of_ble_eq_true rfl)
theorem p273_46 (lv : jmL) (st : List jmV) (w : jmW) : rn 273 (46, lv, st, w) = rn 273 (47, lv, .inl (1) :: st, w) := q_iconst (jd_of jb_273 dX9_findsOrder_46)
theorem p273_47 (lv : jmL) (st : List jmV) (w : jmW) (x : Int) : rn 273 (47, lv, .inl x :: st, w) = rn 273 (48, js lv 2 (.inl x), st, w) := q_istore_n (jd_of jb_273 dX9_findsOrder_47) rfl (by rw [jm_273]; decide)
theorem p273_48 (lv : jmL) (st : List jmV) (w : jmW) : rn 273 (48, lv, st, w) = jq_ldi 273 49 lv st w (jg lv 2) := q_iload_n (jd_of jb_273 dX9_findsOrder_48) rfl
theorem p273_49 (lv : jmL) (st : List jmV) (w : jmW) : rn 273 (49, lv, st, w) = jq_lda 273 50 lv st w (jg lv 0) := q_aload_n (jd_of jb_273 dX9_findsOrder_49) rfl
theorem p273_50 (lv : jmL) (st : List jmV) (w : jmW) (a : Nat) : rn 273 (50, lv, jvr a :: st, w) = jq_gs (mS w a) (1, 9, 0) 273 53 lv (.inr (.inr (mR w a 18)) :: st) (w) := q_getf (v := fun w a => .inr (.inr (mR w a 18))) (jd_of jb_273 dX9_findsOrder_50) jo_273 jk_9_21 (fun _ _ => rfl)
theorem p273_53 (lv : jmL) (st : List jmV) (w : jmW) : rn 273 (53, lv, st, w) = rn 273 (56, lv, .inl (289) :: st, w) := q_sipush (jd_of jb_273 dX9_findsOrder_53) (by decide +kernel)
theorem p273_56 (lv : jmL) (st : List jmV) (w : jmW) (a : Nat) (j : Int) : rn 273 (56, lv, .inl j :: jvr a :: st, w) = jq_gr (mS w a) 0 j 273 57 lv (.inl (mI w a (jix j)) :: st) (w) := q_iald (jd_of jb_273 dX9_findsOrder_56)
theorem p273_57 (lv : jmL) (st : List jmV) (w : jmW) (x y : Int) : rn 273 (57, lv, .inl y :: .inl x :: st, w) = if jw x < jw y then rn 273 (60, lv, st, w) else rn 273 (188, lv, st, w) := q_icmp_ge (jd_of jb_273 dX9_findsOrder_57) (by decide)
theorem p273_60 (lv : jmL) (st : List jmV) (w : jmW) : rn 273 (60, lv, st, w) = jq_lda 273 61 lv st w (jg lv 0) := q_aload_n (jd_of jb_273 dX9_findsOrder_60) rfl
theorem p273_61 (lv : jmL) (st : List jmV) (w : jmW) (a : Nat) : rn 273 (61, lv, jvr a :: st, w) = jq_gs (mS w a) (1, 9, 0) 273 64 lv (.inr (.inr (mR w a 19)) :: st) (w) := q_getf (v := fun w a => .inr (.inr (mR w a 19))) (jd_of jb_273 dX9_findsOrder_61) jo_273 jk_9_24 (fun _ _ => rfl)
theorem p273_64 (lv : jmL) (st : List jmV) (w : jmW) : rn 273 (64, lv, st, w) = rn 273 (67, lv, .inl (220) :: st, w) := q_sipush (jd_of jb_273 dX9_findsOrder_64) (by decide +kernel)
theorem p273_67 (lv : jmL) (st : List jmV) (w : jmW) : rn 273 (67, lv, st, w) = jq_ldi 273 68 lv st w (jg lv 2) := q_iload_n (jd_of jb_273 dX9_findsOrder_67) rfl
theorem p273_68 (lv : jmL) (st : List jmV) (w : jmW) (x y : Int) : rn 273 (68, lv, .inl y :: .inl x :: st, w) = rn 273 (69, lv, .inl (x + y) :: st, w) := q_iadd (jd_of jb_273 dX9_findsOrder_68)
theorem p273_69 (lv : jmL) (st : List jmV) (w : jmW) (a : Nat) (j : Int) : rn 273 (69, lv, .inl j :: jvr a :: st, w) = jq_gr (mS w a) 0 j 273 70 lv (.inl (mI w a (jix j)) :: st) (w) := q_iald (jd_of jb_273 dX9_findsOrder_69)
theorem p273_70 (lv : jmL) (st : List jmV) (w : jmW) (x : Int) : rn 273 (70, lv, .inl x :: st, w) = rn 273 (71, js lv 3 (.inl x), st, w) := q_istore_n (jd_of jb_273 dX9_findsOrder_70) rfl (by rw [jm_273]; decide)
theorem p273_71 (lv : jmL) (st : List jmV) (w : jmW) : rn 273 (71, lv, st, w) = jq_lda 273 72 lv st w (jg lv 0) := q_aload_n (jd_of jb_273 dX9_findsOrder_71) rfl
theorem p273_72 (lv : jmL) (st : List jmV) (w : jmW) (a : Nat) : rn 273 (72, lv, jvr a :: st, w) = jq_gs (mS w a) (1, 9, 0) 273 75 lv (.inr (.inr (mR w a 19)) :: st) (w) := q_getf (v := fun w a => .inr (.inr (mR w a 19))) (jd_of jb_273 dX9_findsOrder_72) jo_273 jk_9_24 (fun _ _ => rfl)
theorem p273_75 (lv : jmL) (st : List jmV) (w : jmW) : rn 273 (75, lv, st, w) = rn 273 (78, lv, .inl (204) :: st, w) := q_sipush (jd_of jb_273 dX9_findsOrder_75) (by decide +kernel)
theorem p273_78 (lv : jmL) (st : List jmV) (w : jmW) : rn 273 (78, lv, st, w) = jq_ldi 273 79 lv st w (jg lv 2) := q_iload_n (jd_of jb_273 dX9_findsOrder_78) rfl
theorem p273_79 (lv : jmL) (st : List jmV) (w : jmW) (x y : Int) : rn 273 (79, lv, .inl y :: .inl x :: st, w) = rn 273 (80, lv, .inl (x + y) :: st, w) := q_iadd (jd_of jb_273 dX9_findsOrder_79)
theorem p273_80 (lv : jmL) (st : List jmV) (w : jmW) : rn 273 (80, lv, st, w) = jq_lda 273 81 lv st w (jg lv 0) := q_aload_n (jd_of jb_273 dX9_findsOrder_80) rfl
theorem p273_81 (lv : jmL) (st : List jmV) (w : jmW) (a : Nat) : rn 273 (81, lv, jvr a :: st, w) = jq_gs (mS w a) (1, 9, 0) 273 84 lv (.inr (.inr (mR w a 18)) :: st) (w) := q_getf (v := fun w a => .inr (.inr (mR w a 18))) (jd_of jb_273 dX9_findsOrder_81) jo_273 jk_9_21 (fun _ _ => rfl)
theorem p273_84 (lv : jmL) (st : List jmV) (w : jmW) : rn 273 (84, lv, st, w) = rn 273 (87, lv, .inl (204) :: st, w) := q_sipush (jd_of jb_273 dX9_findsOrder_84) (by decide +kernel)
theorem p273_87 (lv : jmL) (st : List jmV) (w : jmW) : rn 273 (87, lv, st, w) = jq_lda 273 88 lv st w (jg lv 0) := q_aload_n (jd_of jb_273 dX9_findsOrder_87) rfl
theorem p273_88 (lv : jmL) (st : List jmV) (w : jmW) (a : Nat) : rn 273 (88, lv, jvr a :: st, w) = jq_gs (mS w a) (1, 9, 0) 273 91 lv (.inr (.inr (mR w a 35)) :: st) (w) := q_getf (v := fun w a => .inr (.inr (mR w a 35))) (jd_of jb_273 dX9_findsOrder_88) jo_273 jk_9_48 (fun _ _ => rfl)
theorem p273_91 (lv : jmL) (st : List jmV) (w : jmW) : rn 273 (91, lv, st, w) = jq_ldi 273 92 lv st w (jg lv 2) := q_iload_n (jd_of jb_273 dX9_findsOrder_91) rfl
theorem p273_92 (lv : jmL) (st : List jmV) (w : jmW) (a : Nat) (j : Int) : rn 273 (92, lv, .inl j :: jvr a :: st, w) = jq_gr (mS w a) 0 j 273 93 lv (.inl (mI w a (jix j)) :: st) (w) := q_iald (jd_of jb_273 dX9_findsOrder_92)
theorem p273_93 (lv : jmL) (st : List jmV) (w : jmW) (x y : Int) : rn 273 (93, lv, .inl y :: .inl x :: st, w) = rn 273 (94, lv, .inl (x + y) :: st, w) := q_iadd (jd_of jb_273 dX9_findsOrder_93)
theorem p273_94 (lv : jmL) (st : List jmV) (w : jmW) (a : Nat) (j : Int) : rn 273 (94, lv, .inl j :: jvr a :: st, w) = jq_gr (mS w a) 0 j 273 95 lv (.inl (mI w a (jix j)) :: st) (w) := q_iald (jd_of jb_273 dX9_findsOrder_94)
theorem p273_95 (lv : jmL) (st : List jmV) (w : jmW) (a : Nat) (j x : Int) : rn 273 (95, lv, .inl x :: .inl j :: jvr a :: st, w) = jq_gw (mS w a) 0 j 273 96 lv (st) (setI w a (jix j) x) := q_iast (jd_of jb_273 dX9_findsOrder_95)
theorem p273_96 (lv : jmL) (st : List jmV) (w : jmW) : rn 273 (96, lv, st, w) = jq_lda 273 97 lv st w (jg lv 0) := q_aload_n (jd_of jb_273 dX9_findsOrder_96) rfl
theorem p273_97 (lv : jmL) (st : List jmV) (w : jmW) (a : Nat) : rn 273 (97, lv, jvr a :: st, w) = jq_gs (mS w a) (1, 9, 0) 273 100 lv (.inr (.inr (mR w a 19)) :: st) (w) := q_getf (v := fun w a => .inr (.inr (mR w a 19))) (jd_of jb_273 dX9_findsOrder_97) jo_273 jk_9_24 (fun _ _ => rfl)
theorem p273_100 (lv : jmL) (st : List jmV) (w : jmW) : rn 273 (100, lv, st, w) = rn 273 (103, lv, .inl (236) :: st, w) := q_sipush (jd_of jb_273 dX9_findsOrder_100) (by decide +kernel)
theorem p273_103 (lv : jmL) (st : List jmV) (w : jmW) : rn 273 (103, lv, st, w) = jq_ldi 273 104 lv st w (jg lv 2) := q_iload_n (jd_of jb_273 dX9_findsOrder_103) rfl
theorem p273_104 (lv : jmL) (st : List jmV) (w : jmW) (x y : Int) : rn 273 (104, lv, .inl y :: .inl x :: st, w) = rn 273 (105, lv, .inl (x + y) :: st, w) := q_iadd (jd_of jb_273 dX9_findsOrder_104)
theorem p273_105 (lv : jmL) (st : List jmV) (w : jmW) : rn 273 (105, lv, st, w) = jq_lda 273 106 lv st w (jg lv 0) := q_aload_n (jd_of jb_273 dX9_findsOrder_105) rfl
theorem p273_106 (lv : jmL) (st : List jmV) (w : jmW) (a : Nat) : rn 273 (106, lv, jvr a :: st, w) = jq_gs (mS w a) (1, 9, 0) 273 109 lv (.inr (.inr (mR w a 18)) :: st) (w) := q_getf (v := fun w a => .inr (.inr (mR w a 18))) (jd_of jb_273 dX9_findsOrder_106) jo_273 jk_9_21 (fun _ _ => rfl)
theorem p273_109 (lv : jmL) (st : List jmV) (w : jmW) : rn 273 (109, lv, st, w) = rn 273 (112, lv, .inl (236) :: st, w) := q_sipush (jd_of jb_273 dX9_findsOrder_109) (by decide +kernel)
theorem p273_112 (lv : jmL) (st : List jmV) (w : jmW) : rn 273 (112, lv, st, w) = jq_lda 273 113 lv st w (jg lv 0) := q_aload_n (jd_of jb_273 dX9_findsOrder_112) rfl
theorem p273_113 (lv : jmL) (st : List jmV) (w : jmW) (a : Nat) : rn 273 (113, lv, jvr a :: st, w) = jq_gs (mS w a) (1, 9, 0) 273 116 lv (.inr (.inr (mR w a 35)) :: st) (w) := q_getf (v := fun w a => .inr (.inr (mR w a 35))) (jd_of jb_273 dX9_findsOrder_113) jo_273 jk_9_48 (fun _ _ => rfl)
theorem p273_116 (lv : jmL) (st : List jmV) (w : jmW) : rn 273 (116, lv, st, w) = jq_ldi 273 117 lv st w (jg lv 2) := q_iload_n (jd_of jb_273 dX9_findsOrder_116) rfl
theorem p273_117 (lv : jmL) (st : List jmV) (w : jmW) (a : Nat) (j : Int) : rn 273 (117, lv, .inl j :: jvr a :: st, w) = jq_gr (mS w a) 0 j 273 118 lv (.inl (mI w a (jix j)) :: st) (w) := q_iald (jd_of jb_273 dX9_findsOrder_117)
theorem p273_118 (lv : jmL) (st : List jmV) (w : jmW) (x y : Int) : rn 273 (118, lv, .inl y :: .inl x :: st, w) = rn 273 (119, lv, .inl (x + y) :: st, w) := q_iadd (jd_of jb_273 dX9_findsOrder_118)
theorem p273_119 (lv : jmL) (st : List jmV) (w : jmW) (a : Nat) (j : Int) : rn 273 (119, lv, .inl j :: jvr a :: st, w) = jq_gr (mS w a) 0 j 273 120 lv (.inl (mI w a (jix j)) :: st) (w) := q_iald (jd_of jb_273 dX9_findsOrder_119)
theorem p273_120 (lv : jmL) (st : List jmV) (w : jmW) (a : Nat) (j x : Int) : rn 273 (120, lv, .inl x :: .inl j :: jvr a :: st, w) = jq_gw (mS w a) 0 j 273 121 lv (st) (setI w a (jix j) x) := q_iast (jd_of jb_273 dX9_findsOrder_120)
theorem p273_121 (lv : jmL) (st : List jmV) (w : jmW) : rn 273 (121, lv, st, w) = jq_lda 273 122 lv st w (jg lv 0) := q_aload_n (jd_of jb_273 dX9_findsOrder_121) rfl
theorem p273_122 (lv : jmL) (st : List jmV) (w : jmW) (a : Nat) : rn 273 (122, lv, jvr a :: st, w) = jq_gs (mS w a) (1, 9, 0) 273 125 lv (.inr (.inr (mR w a 19)) :: st) (w) := q_getf (v := fun w a => .inr (.inr (mR w a 19))) (jd_of jb_273 dX9_findsOrder_122) jo_273 jk_9_24 (fun _ _ => rfl)
theorem p273_125 (lv : jmL) (st : List jmV) (w : jmW) : rn 273 (125, lv, st, w) = rn 273 (128, lv, .inl (252) :: st, w) := q_sipush (jd_of jb_273 dX9_findsOrder_125) (by decide +kernel)
theorem p273_128 (lv : jmL) (st : List jmV) (w : jmW) : rn 273 (128, lv, st, w) = jq_ldi 273 129 lv st w (jg lv 2) := q_iload_n (jd_of jb_273 dX9_findsOrder_128) rfl
theorem p273_129 (lv : jmL) (st : List jmV) (w : jmW) (x y : Int) : rn 273 (129, lv, .inl y :: .inl x :: st, w) = rn 273 (130, lv, .inl (x + y) :: st, w) := q_iadd (jd_of jb_273 dX9_findsOrder_129)
theorem p273_130 (lv : jmL) (st : List jmV) (w : jmW) : rn 273 (130, lv, st, w) = jq_lda 273 131 lv st w (jg lv 0) := q_aload_n (jd_of jb_273 dX9_findsOrder_130) rfl
theorem p273_131 (lv : jmL) (st : List jmV) (w : jmW) (a : Nat) : rn 273 (131, lv, jvr a :: st, w) = jq_gs (mS w a) (1, 9, 0) 273 134 lv (.inr (.inr (mR w a 18)) :: st) (w) := q_getf (v := fun w a => .inr (.inr (mR w a 18))) (jd_of jb_273 dX9_findsOrder_131) jo_273 jk_9_21 (fun _ _ => rfl)
theorem p273_134 (lv : jmL) (st : List jmV) (w : jmW) : rn 273 (134, lv, st, w) = rn 273 (137, lv, .inl (252) :: st, w) := q_sipush (jd_of jb_273 dX9_findsOrder_134) (by decide +kernel)
theorem p273_137 (lv : jmL) (st : List jmV) (w : jmW) : rn 273 (137, lv, st, w) = jq_lda 273 138 lv st w (jg lv 0) := q_aload_n (jd_of jb_273 dX9_findsOrder_137) rfl
theorem p273_138 (lv : jmL) (st : List jmV) (w : jmW) (a : Nat) : rn 273 (138, lv, jvr a :: st, w) = jq_gs (mS w a) (1, 9, 0) 273 141 lv (.inr (.inr (mR w a 35)) :: st) (w) := q_getf (v := fun w a => .inr (.inr (mR w a 35))) (jd_of jb_273 dX9_findsOrder_138) jo_273 jk_9_48 (fun _ _ => rfl)
theorem p273_141 (lv : jmL) (st : List jmV) (w : jmW) : rn 273 (141, lv, st, w) = jq_ldi 273 142 lv st w (jg lv 2) := q_iload_n (jd_of jb_273 dX9_findsOrder_141) rfl
theorem p273_142 (lv : jmL) (st : List jmV) (w : jmW) (a : Nat) (j : Int) : rn 273 (142, lv, .inl j :: jvr a :: st, w) = jq_gr (mS w a) 0 j 273 143 lv (.inl (mI w a (jix j)) :: st) (w) := q_iald (jd_of jb_273 dX9_findsOrder_142)
theorem p273_143 (lv : jmL) (st : List jmV) (w : jmW) (x y : Int) : rn 273 (143, lv, .inl y :: .inl x :: st, w) = rn 273 (144, lv, .inl (x + y) :: st, w) := q_iadd (jd_of jb_273 dX9_findsOrder_143)
theorem p273_144 (lv : jmL) (st : List jmV) (w : jmW) (a : Nat) (j : Int) : rn 273 (144, lv, .inl j :: jvr a :: st, w) = jq_gr (mS w a) 0 j 273 145 lv (.inl (mI w a (jix j)) :: st) (w) := q_iald (jd_of jb_273 dX9_findsOrder_144)
theorem p273_145 (lv : jmL) (st : List jmV) (w : jmW) (a : Nat) (j x : Int) : rn 273 (145, lv, .inl x :: .inl j :: jvr a :: st, w) = jq_gw (mS w a) 0 j 273 146 lv (st) (setI w a (jix j) x) := q_iast (jd_of jb_273 dX9_findsOrder_145)
theorem p273_146 (lv : jmL) (st : List jmV) (w : jmW) : rn 273 (146, lv, st, w) = jq_lda 273 147 lv st w (jg lv 0) := q_aload_n (jd_of jb_273 dX9_findsOrder_146) rfl
theorem p273_147 (lv : jmL) (st : List jmV) (w : jmW) (a : Nat) : rn 273 (147, lv, jvr a :: st, w) = jq_gs (mS w a) (1, 9, 0) 273 150 lv (.inr (.inr (mR w a 19)) :: st) (w) := q_getf (v := fun w a => .inr (.inr (mR w a 19))) (jd_of jb_273 dX9_findsOrder_147) jo_273 jk_9_24 (fun _ _ => rfl)
theorem p273_150 (lv : jmL) (st : List jmV) (w : jmW) : rn 273 (150, lv, st, w) = rn 273 (153, lv, .inl (268) :: st, w) := q_sipush (jd_of jb_273 dX9_findsOrder_150) (by decide +kernel)
theorem p273_153 (lv : jmL) (st : List jmV) (w : jmW) : rn 273 (153, lv, st, w) = jq_ldi 273 154 lv st w (jg lv 2) := q_iload_n (jd_of jb_273 dX9_findsOrder_153) rfl
theorem p273_154 (lv : jmL) (st : List jmV) (w : jmW) (x y : Int) : rn 273 (154, lv, .inl y :: .inl x :: st, w) = rn 273 (155, lv, .inl (x + y) :: st, w) := q_iadd (jd_of jb_273 dX9_findsOrder_154)
theorem p273_155 (lv : jmL) (st : List jmV) (w : jmW) : rn 273 (155, lv, st, w) = jq_lda 273 156 lv st w (jg lv 0) := q_aload_n (jd_of jb_273 dX9_findsOrder_155) rfl
theorem p273_156 (lv : jmL) (st : List jmV) (w : jmW) (a : Nat) : rn 273 (156, lv, jvr a :: st, w) = jq_gs (mS w a) (1, 9, 0) 273 159 lv (.inr (.inr (mR w a 18)) :: st) (w) := q_getf (v := fun w a => .inr (.inr (mR w a 18))) (jd_of jb_273 dX9_findsOrder_156) jo_273 jk_9_21 (fun _ _ => rfl)
theorem p273_159 (lv : jmL) (st : List jmV) (w : jmW) : rn 273 (159, lv, st, w) = rn 273 (162, lv, .inl (268) :: st, w) := q_sipush (jd_of jb_273 dX9_findsOrder_159) (by decide +kernel)
theorem p273_162 (lv : jmL) (st : List jmV) (w : jmW) : rn 273 (162, lv, st, w) = jq_lda 273 163 lv st w (jg lv 0) := q_aload_n (jd_of jb_273 dX9_findsOrder_162) rfl
theorem p273_163 (lv : jmL) (st : List jmV) (w : jmW) (a : Nat) : rn 273 (163, lv, jvr a :: st, w) = jq_gs (mS w a) (1, 9, 0) 273 166 lv (.inr (.inr (mR w a 35)) :: st) (w) := q_getf (v := fun w a => .inr (.inr (mR w a 35))) (jd_of jb_273 dX9_findsOrder_163) jo_273 jk_9_48 (fun _ _ => rfl)
theorem p273_166 (lv : jmL) (st : List jmV) (w : jmW) : rn 273 (166, lv, st, w) = jq_ldi 273 167 lv st w (jg lv 2) := q_iload_n (jd_of jb_273 dX9_findsOrder_166) rfl
theorem p273_167 (lv : jmL) (st : List jmV) (w : jmW) (a : Nat) (j : Int) : rn 273 (167, lv, .inl j :: jvr a :: st, w) = jq_gr (mS w a) 0 j 273 168 lv (.inl (mI w a (jix j)) :: st) (w) := q_iald (jd_of jb_273 dX9_findsOrder_167)
theorem p273_168 (lv : jmL) (st : List jmV) (w : jmW) (x y : Int) : rn 273 (168, lv, .inl y :: .inl x :: st, w) = rn 273 (169, lv, .inl (x + y) :: st, w) := q_iadd (jd_of jb_273 dX9_findsOrder_168)
theorem p273_169 (lv : jmL) (st : List jmV) (w : jmW) (a : Nat) (j : Int) : rn 273 (169, lv, .inl j :: jvr a :: st, w) = jq_gr (mS w a) 0 j 273 170 lv (.inl (mI w a (jix j)) :: st) (w) := q_iald (jd_of jb_273 dX9_findsOrder_169)
theorem p273_170 (lv : jmL) (st : List jmV) (w : jmW) (a : Nat) (j x : Int) : rn 273 (170, lv, .inl x :: .inl j :: jvr a :: st, w) = jq_gw (mS w a) 0 j 273 171 lv (st) (setI w a (jix j) x) := q_iast (jd_of jb_273 dX9_findsOrder_170)
theorem p273_171 (lv : jmL) (st : List jmV) (w : jmW) : rn 273 (171, lv, st, w) = jq_lda 273 172 lv st w (jg lv 0) := q_aload_n (jd_of jb_273 dX9_findsOrder_171) rfl
theorem p273_172 (lv : jmL) (st : List jmV) (w : jmW) (a : Nat) : rn 273 (172, lv, jvr a :: st, w) = jq_gs (mS w a) (1, 9, 0) 273 175 lv (.inr (.inr (mR w a 19)) :: st) (w) := q_getf (v := fun w a => .inr (.inr (mR w a 19))) (jd_of jb_273 dX9_findsOrder_172) jo_273 jk_9_24 (fun _ _ => rfl)
theorem p273_175 (lv : jmL) (st : List jmV) (w : jmW) : rn 273 (175, lv, st, w) = rn 273 (178, lv, .inl (220) :: st, w) := q_sipush (jd_of jb_273 dX9_findsOrder_175) (by decide +kernel)
theorem p273_178 (lv : jmL) (st : List jmV) (w : jmW) : rn 273 (178, lv, st, w) = jq_ldi 273 179 lv st w (jg lv 2) := q_iload_n (jd_of jb_273 dX9_findsOrder_178) rfl
theorem p273_179 (lv : jmL) (st : List jmV) (w : jmW) (x y : Int) : rn 273 (179, lv, .inl y :: .inl x :: st, w) = rn 273 (180, lv, .inl (x + y) :: st, w) := q_iadd (jd_of jb_273 dX9_findsOrder_179)
theorem p273_180 (lv : jmL) (st : List jmV) (w : jmW) : rn 273 (180, lv, st, w) = jq_ldi 273 181 lv st w (jg lv 3) := q_iload_n (jd_of jb_273 dX9_findsOrder_180) rfl
theorem p273_181 (lv : jmL) (st : List jmV) (w : jmW) (a : Nat) (j x : Int) : rn 273 (181, lv, .inl x :: .inl j :: jvr a :: st, w) = jq_gw (mS w a) 0 j 273 182 lv (st) (setI w a (jix j) x) := q_iast (jd_of jb_273 dX9_findsOrder_181)
theorem p273_182 (lv : jmL) (st : List jmV) (w : jmW) : rn 273 (182, lv, st, w) = jq_inc 273 185 lv 2 (1) st w (jg lv 2) := q_iinc (jd_of jb_273 dX9_findsOrder_182) (by rw [jm_273]; decide)
theorem p273_185 (lv : jmL) (st : List jmV) (w : jmW) : rn 273 (185, lv, st, w) = rn 273 (48, lv, st, w) := q_goto (jd_of jb_273 dX9_findsOrder_185) (by decide)
theorem p273_188 (lv : jmL) (st : List jmV) (w : jmW) : rn 273 (188, lv, st, w) = rn 273 (189, lv, .inl (0) :: st, w) := q_iconst (jd_of jb_273 dX9_findsOrder_188)
theorem p273_189 (lv : jmL) (st : List jmV) (w : jmW) (x : Int) : rn 273 (189, lv, .inl x :: st, w) = rn 273 (190, js lv 2 (.inl x), st, w) := q_istore_n (jd_of jb_273 dX9_findsOrder_189) rfl (by rw [jm_273]; decide)
theorem p273_190 (lv : jmL) (st : List jmV) (w : jmW) : rn 273 (190, lv, st, w) = jq_ldi 273 191 lv st w (jg lv 2) := q_iload_n (jd_of jb_273 dX9_findsOrder_190) rfl
theorem p273_191 (lv : jmL) (st : List jmV) (w : jmW) : rn 273 (191, lv, st, w) = rn 273 (193, lv, .inl (12) :: st, w) := q_bipush (jd_of jb_273 dX9_findsOrder_191) (by decide +kernel)
theorem p273_193 (lv : jmL) (st : List jmV) (w : jmW) (x y : Int) : rn 273 (193, lv, .inl y :: .inl x :: st, w) = if jw x < jw y then rn 273 (196, lv, st, w) else rn 273 (211, lv, st, w) := q_icmp_ge (jd_of jb_273 dX9_findsOrder_193) (by decide)
theorem p273_196 (lv : jmL) (st : List jmV) (w : jmW) : rn 273 (196, lv, st, w) = jq_lda 273 197 lv st w (jg lv 0) := q_aload_n (jd_of jb_273 dX9_findsOrder_196) rfl
theorem p273_197 (lv : jmL) (st : List jmV) (w : jmW) : rn 273 (197, lv, st, w) = jq_lda 273 198 lv st w (jg lv 0) := q_aload_n (jd_of jb_273 dX9_findsOrder_197) rfl
theorem p273_198 (lv : jmL) (st : List jmV) (w : jmW) (a : Nat) : rn 273 (198, lv, jvr a :: st, w) = jq_gs (mS w a) (1, 9, 0) 273 201 lv (.inr (.inr (mR w a 19)) :: st) (w) := q_getf (v := fun w a => .inr (.inr (mR w a 19))) (jd_of jb_273 dX9_findsOrder_198) jo_273 jk_9_24 (fun _ _ => rfl)
theorem p273_201 (lv : jmL) (st : List jmV) (w : jmW) : rn 273 (201, lv, st, w) = rn 273 (202, lv, .inl (0) :: st, w) := q_iconst (jd_of jb_273 dX9_findsOrder_201)
theorem p273_202 (lv : jmL) (st : List jmV) (w : jmW) (b : Nat) (x1 : Option Nat) (x2 : Int) : rn 273 (202, lv, .inl x2 :: .inr (.inr x1) :: jvr b :: st, w) = jq_s (mS w b) (1, 9, 0) (jq_b (decide (jwd st ≤ 8)) (jq_c 273 205 lv st (rn 238 (0, [(0, jvr b), (1, .inr (.inr x1)), (2, .inl x2)], [], w)))) := q_callv (as := [.inr (.inr x1), .inl x2]) (rest := st) (jd_of jb_273 dX9_findsOrder_202) jo_273 jk_9_504 rfl rfl rfl jo_238 jf_273_238 (Nat.le_of_ble_eq_true rfl)
theorem p273_205 (lv : jmL) (st : List jmV) (w : jmW) : rn 273 (205, lv, st, w) = jq_inc 273 208 lv 2 (1) st w (jg lv 2) := q_iinc (jd_of jb_273 dX9_findsOrder_205) (by rw [jm_273]; decide)
theorem p273_208 (lv : jmL) (st : List jmV) (w : jmW) : rn 273 (208, lv, st, w) = rn 273 (190, lv, st, w) := q_goto (jd_of jb_273 dX9_findsOrder_208) (by decide)
theorem p273_211 (lv : jmL) (st : List jmV) (w : jmW) : rn 273 (211, lv, st, w) = jq_lda 273 212 lv st w (jg lv 0) := q_aload_n (jd_of jb_273 dX9_findsOrder_211) rfl
theorem p273_212 (lv : jmL) (st : List jmV) (w : jmW) (a : Nat) : rn 273 (212, lv, jvr a :: st, w) = jq_gs (mS w a) (1, 9, 0) 273 215 lv (.inl (mI w a 37) :: st) (w) := q_getf (v := fun w a => .inl (mI w a 37)) (jd_of jb_273 dX9_findsOrder_212) jo_273 jk_9_538 (fun _ _ => rfl)
theorem p273_215 (lv : jmL) (st : List jmV) (w : jmW) : rn 273 (215, lv, st, w) = rn 273 (216, lv, .inl (-1) :: st, w) := q_iconst (jd_of jb_273 dX9_findsOrder_215)
theorem p273_216 (lv : jmL) (st : List jmV) (w : jmW) (x y : Int) : rn 273 (216, lv, .inl y :: .inl x :: st, w) = if jw x = jw y then rn 273 (230, lv, st, w) else rn 273 (219, lv, st, w) := q_icmp_eq (jd_of jb_273 dX9_findsOrder_216) (by decide)
theorem p273_219 (lv : jmL) (st : List jmV) (w : jmW) : rn 273 (219, lv, st, w) = jq_lda 273 220 lv st w (jg lv 0) := q_aload_n (jd_of jb_273 dX9_findsOrder_219) rfl
theorem p273_220 (lv : jmL) (st : List jmV) (w : jmW) (a : Nat) : rn 273 (220, lv, jvr a :: st, w) = jq_gs (mS w a) (1, 9, 0) 273 223 lv (.inl (mI w a 31) :: st) (w) := q_getf (v := fun w a => .inl (mI w a 31)) (jd_of jb_273 dX9_findsOrder_220) jo_273 jk_9_461 (fun _ _ => rfl)
theorem p273_223 (lv : jmL) (st : List jmV) (w : jmW) : rn 273 (223, lv, st, w) = jq_lda 273 224 lv st w (jg lv 0) := q_aload_n (jd_of jb_273 dX9_findsOrder_223) rfl
theorem p273_224 (lv : jmL) (st : List jmV) (w : jmW) (a : Nat) : rn 273 (224, lv, jvr a :: st, w) = jq_gs (mS w a) (1, 9, 0) 273 227 lv (.inl (mI w a 37) :: st) (w) := q_getf (v := fun w a => .inl (mI w a 37)) (jd_of jb_273 dX9_findsOrder_224) jo_273 jk_9_538 (fun _ _ => rfl)
theorem p273_227 (lv : jmL) (st : List jmV) (w : jmW) (x y : Int) : rn 273 (227, lv, .inl y :: .inl x :: st, w) = if jw x < jw y then rn 273 (230, lv, st, w) else rn 273 (270, lv, st, w) := q_icmp_ge (jd_of jb_273 dX9_findsOrder_227) (by decide)
theorem p273_230 (lv : jmL) (st : List jmV) (w : jmW) : rn 273 (230, lv, st, w) = jq_lda 273 231 lv st w (jg lv 0) := q_aload_n (jd_of jb_273 dX9_findsOrder_230) rfl
theorem p273_231 (lv : jmL) (st : List jmV) (w : jmW) : rn 273 (231, lv, st, w) = jq_lda 273 232 lv st w (jg lv 0) := q_aload_n (jd_of jb_273 dX9_findsOrder_231) rfl
theorem p273_232 (lv : jmL) (st : List jmV) (w : jmW) (a : Nat) : rn 273 (232, lv, jvr a :: st, w) = jq_gs (mS w a) (1, 9, 0) 273 235 lv (.inl (mI w a 31) :: st) (w) := q_getf (v := fun w a => .inl (mI w a 31)) (jd_of jb_273 dX9_findsOrder_232) jo_273 jk_9_461 (fun _ _ => rfl)
theorem p273_235 (lv : jmL) (st : List jmV) (w : jmW) (a : Nat) (x : Int) : rn 273 (235, lv, .inl x :: jvr a :: st, w) = jq_gs (mS w a) (1, 9, 0) 273 238 lv (st) (setI w a 37 x) := q_putf (jd_of jb_273 dX9_findsOrder_235) jo_273 jk_9_538 (Or.inl rfl) rfl
theorem p273_238 (lv : jmL) (st : List jmV) (w : jmW) : rn 273 (238, lv, st, w) = rn 273 (239, lv, .inl (0) :: st, w) := q_iconst (jd_of jb_273 dX9_findsOrder_238)
theorem p273_239 (lv : jmL) (st : List jmV) (w : jmW) (x : Int) : rn 273 (239, lv, .inl x :: st, w) = rn 273 (240, js lv 2 (.inl x), st, w) := q_istore_n (jd_of jb_273 dX9_findsOrder_239) rfl (by rw [jm_273]; decide)
theorem p273_240 (lv : jmL) (st : List jmV) (w : jmW) : rn 273 (240, lv, st, w) = jq_ldi 273 241 lv st w (jg lv 2) := q_iload_n (jd_of jb_273 dX9_findsOrder_240) rfl
theorem p273_241 (lv : jmL) (st : List jmV) (w : jmW) : rn 273 (241, lv, st, w) = jq_lda 273 242 lv st w (jg lv 0) := q_aload_n (jd_of jb_273 dX9_findsOrder_241) rfl
theorem p273_242 (lv : jmL) (st : List jmV) (w : jmW) (a : Nat) : rn 273 (242, lv, jvr a :: st, w) = jq_gs (mS w a) (1, 9, 0) 273 245 lv (.inr (.inr (mR w a 18)) :: st) (w) := q_getf (v := fun w a => .inr (.inr (mR w a 18))) (jd_of jb_273 dX9_findsOrder_242) jo_273 jk_9_21 (fun _ _ => rfl)
theorem p273_245 (lv : jmL) (st : List jmV) (w : jmW) : rn 273 (245, lv, st, w) = rn 273 (248, lv, .inl (289) :: st, w) := q_sipush (jd_of jb_273 dX9_findsOrder_245) (by decide +kernel)
theorem p273_248 (lv : jmL) (st : List jmV) (w : jmW) (a : Nat) (j : Int) : rn 273 (248, lv, .inl j :: jvr a :: st, w) = jq_gr (mS w a) 0 j 273 249 lv (.inl (mI w a (jix j)) :: st) (w) := q_iald (jd_of jb_273 dX9_findsOrder_248)
theorem p273_249 (lv : jmL) (st : List jmV) (w : jmW) (x y : Int) : rn 273 (249, lv, .inl y :: .inl x :: st, w) = if jw x < jw y then rn 273 (252, lv, st, w) else rn 273 (270, lv, st, w) := q_icmp_ge (jd_of jb_273 dX9_findsOrder_249) (by decide)
theorem p273_252 (lv : jmL) (st : List jmV) (w : jmW) : rn 273 (252, lv, st, w) = jq_lda 273 253 lv st w (jg lv 0) := q_aload_n (jd_of jb_273 dX9_findsOrder_252) rfl
theorem p273_253 (lv : jmL) (st : List jmV) (w : jmW) (a : Nat) : rn 273 (253, lv, jvr a :: st, w) = jq_gs (mS w a) (1, 9, 0) 273 256 lv (.inr (.inr (mR w a 36)) :: st) (w) := q_getf (v := fun w a => .inr (.inr (mR w a 36))) (jd_of jb_273 dX9_findsOrder_253) jo_273 jk_9_51 (fun _ _ => rfl)
theorem p273_256 (lv : jmL) (st : List jmV) (w : jmW) : rn 273 (256, lv, st, w) = jq_ldi 273 257 lv st w (jg lv 2) := q_iload_n (jd_of jb_273 dX9_findsOrder_256) rfl
theorem p273_257 (lv : jmL) (st : List jmV) (w : jmW) : rn 273 (257, lv, st, w) = jq_lda 273 258 lv st w (jg lv 0) := q_aload_n (jd_of jb_273 dX9_findsOrder_257) rfl
theorem p273_258 (lv : jmL) (st : List jmV) (w : jmW) (a : Nat) : rn 273 (258, lv, jvr a :: st, w) = jq_gs (mS w a) (1, 9, 0) 273 261 lv (.inr (.inr (mR w a 35)) :: st) (w) := q_getf (v := fun w a => .inr (.inr (mR w a 35))) (jd_of jb_273 dX9_findsOrder_258) jo_273 jk_9_48 (fun _ _ => rfl)
theorem p273_261 (lv : jmL) (st : List jmV) (w : jmW) : rn 273 (261, lv, st, w) = jq_ldi 273 262 lv st w (jg lv 2) := q_iload_n (jd_of jb_273 dX9_findsOrder_261) rfl
theorem p273_262 (lv : jmL) (st : List jmV) (w : jmW) (a : Nat) (j : Int) : rn 273 (262, lv, .inl j :: jvr a :: st, w) = jq_gr (mS w a) 0 j 273 263 lv (.inl (mI w a (jix j)) :: st) (w) := q_iald (jd_of jb_273 dX9_findsOrder_262)
theorem p273_263 (lv : jmL) (st : List jmV) (w : jmW) (a : Nat) (j x : Int) : rn 273 (263, lv, .inl x :: .inl j :: jvr a :: st, w) = jq_gw (mS w a) 0 j 273 264 lv (st) (setI w a (jix j) x) := q_iast (jd_of jb_273 dX9_findsOrder_263)
theorem p273_264 (lv : jmL) (st : List jmV) (w : jmW) : rn 273 (264, lv, st, w) = jq_inc 273 267 lv 2 (1) st w (jg lv 2) := q_iinc (jd_of jb_273 dX9_findsOrder_264) (by rw [jm_273]; decide)
theorem p273_267 (lv : jmL) (st : List jmV) (w : jmW) : rn 273 (267, lv, st, w) = rn 273 (240, lv, st, w) := q_goto (jd_of jb_273 dX9_findsOrder_267) (by decide)
theorem p273_270 (lv : jmL) (st : List jmV) (w : jmW) : rn 273 (270, lv, st, w) = jq_lda 273 271 lv st w (jg lv 0) := q_aload_n (jd_of jb_273 dX9_findsOrder_270) rfl
theorem p273_271 (lv : jmL) (st : List jmV) (w : jmW) : rn 273 (271, lv, st, w) = jq_lda 273 272 lv st w (jg lv 0) := q_aload_n (jd_of jb_273 dX9_findsOrder_271) rfl
theorem p273_272 (lv : jmL) (st : List jmV) (w : jmW) (a : Nat) : rn 273 (272, lv, jvr a :: st, w) = jq_gs (mS w a) (1, 9, 0) 273 275 lv (.inr (.inr (mR w a 18)) :: st) (w) := q_getf (v := fun w a => .inr (.inr (mR w a 18))) (jd_of jb_273 dX9_findsOrder_272) jo_273 jk_9_21 (fun _ _ => rfl)
theorem p273_275 (lv : jmL) (st : List jmV) (w : jmW) : rn 273 (275, lv, st, w) = rn 273 (278, lv, .inl (289) :: st, w) := q_sipush (jd_of jb_273 dX9_findsOrder_275) (by decide +kernel)
theorem p273_278 (lv : jmL) (st : List jmV) (w : jmW) (a : Nat) (j : Int) : rn 273 (278, lv, .inl j :: jvr a :: st, w) = jq_gr (mS w a) 0 j 273 279 lv (.inl (mI w a (jix j)) :: st) (w) := q_iald (jd_of jb_273 dX9_findsOrder_278)
theorem p273_279 (lv : jmL) (st : List jmV) (w : jmW) (b : Nat) (x1 : Int) : rn 273 (279, lv, .inl x1 :: jvr b :: st, w) = jq_s (mS w b) (1, 9, 0) (jq_b (decide (jwd st ≤ 8)) (jq_c 273 282 lv st (rn 274 (0, [(0, jvr b), (1, .inl x1)], [], w)))) := q_callv (as := [.inl x1]) (rest := st) (jd_of jb_273 dX9_findsOrder_279) jo_273 jk_9_541 rfl rfl rfl jo_274 jf_273_274 (Nat.le_of_ble_eq_true rfl)
theorem p273_282 (lv : jmL) (st : List jmV) (w : jmW) (x : Int) : rn 273 (282, lv, .inl x :: st, w) = rn 273 (283, js lv 1 (.inl x), st, w) := q_istore_n (jd_of jb_273 dX9_findsOrder_282) rfl (by rw [jm_273]; decide)
theorem p273_283 (lv : jmL) (st : List jmV) (w : jmW) : rn 273 (283, lv, st, w) = rn 273 (34, lv, st, w) := q_goto (jd_of jb_273 dX9_findsOrder_283) (by decide)
theorem p273_286 (lv : jmL) (w : jmW) : rn 273 (286, lv, [], w) = some (none, w) := q_return (jd_of jb_273 dX9_findsOrder_286) jr_273
