theorem p274_0 (lv : jmL) (st : List jmV) (w : jmW) : rn 274 (0, lv, st, w) = jq_ldi 274 1 lv st w (jg lv 1) := q_iload_n (jd_of jb_274 dX9_turns_0) rfl
theorem p274_1 (lv : jmL) (st : List jmV) (w : jmW) : rn 274 (1, lv, st, w) = rn 274 (2, lv, .inl (2) :: st, w) := q_iconst (jd_of jb_274 dX9_turns_1)
theorem p274_2 (lv : jmL) (st : List jmV) (w : jmW) (x y : Int) : rn 274 (2, lv, .inl y :: .inl x :: st, w) = rn 274 (3, lv, .inl (x - y) :: st, w) := q_isub (jd_of jb_274 dX9_turns_2)
theorem p274_3 (lv : jmL) (st : List jmV) (w : jmW) (x : Int) : rn 274 (3, lv, .inl x :: st, w) = rn 274 (4, js lv 2 (.inl x), st, w) := q_istore_n (jd_of jb_274 dX9_turns_3) rfl (by rw [jm_274]; decide)
theorem p274_4 (lv : jmL) (st : List jmV) (w : jmW) : rn 274 (4, lv, st, w) = jq_ldi 274 5 lv st w (jg lv 2) := q_iload_n (jd_of jb_274 dX9_turns_4) rfl
theorem p274_5 (lv : jmL) (st : List jmV) (w : jmW) (x : Int) : rn 274 (5, lv, .inl x :: st, w) = if 0 < jw x then rn 274 (8, lv, st, w) else rn 274 (31, lv, st, w) := q_if_le (jd_of jb_274 dX9_turns_5) (by decide)
theorem p274_8 (lv : jmL) (st : List jmV) (w : jmW) : rn 274 (8, lv, st, w) = jq_lda 274 9 lv st w (jg lv 0) := q_aload_n (jd_of jb_274 dX9_turns_8) rfl
theorem p274_9 (lv : jmL) (st : List jmV) (w : jmW) (a : Nat) : rn 274 (9, lv, jvr a :: st, w) = jq_gs (mS w a) (1, 9, 0) 274 12 lv (.inr (.inr (mR w a 35)) :: st) (w) := q_getf (v := fun w a => .inr (.inr (mR w a 35))) (jd_of jb_274 dX9_turns_9) jo_274 jk_9_48 (fun _ _ => rfl)
theorem p274_12 (lv : jmL) (st : List jmV) (w : jmW) : rn 274 (12, lv, st, w) = jq_ldi 274 13 lv st w (jg lv 2) := q_iload_n (jd_of jb_274 dX9_turns_12) rfl
theorem p274_13 (lv : jmL) (st : List jmV) (w : jmW) (a : Nat) (j : Int) : rn 274 (13, lv, .inl j :: jvr a :: st, w) = jq_gr (mS w a) 0 j 274 14 lv (.inl (mI w a (jix j)) :: st) (w) := q_iald (jd_of jb_274 dX9_turns_13)
theorem p274_14 (lv : jmL) (st : List jmV) (w : jmW) : rn 274 (14, lv, st, w) = jq_lda 274 15 lv st w (jg lv 0) := q_aload_n (jd_of jb_274 dX9_turns_14) rfl
theorem p274_15 (lv : jmL) (st : List jmV) (w : jmW) (a : Nat) : rn 274 (15, lv, jvr a :: st, w) = jq_gs (mS w a) (1, 9, 0) 274 18 lv (.inr (.inr (mR w a 35)) :: st) (w) := q_getf (v := fun w a => .inr (.inr (mR w a 35))) (jd_of jb_274 dX9_turns_15) jo_274 jk_9_48 (fun _ _ => rfl)
theorem p274_18 (lv : jmL) (st : List jmV) (w : jmW) : rn 274 (18, lv, st, w) = jq_ldi 274 19 lv st w (jg lv 2) := q_iload_n (jd_of jb_274 dX9_turns_18) rfl
theorem p274_19 (lv : jmL) (st : List jmV) (w : jmW) : rn 274 (19, lv, st, w) = rn 274 (20, lv, .inl (1) :: st, w) := q_iconst (jd_of jb_274 dX9_turns_19)
theorem p274_20 (lv : jmL) (st : List jmV) (w : jmW) (x y : Int) : rn 274 (20, lv, .inl y :: .inl x :: st, w) = rn 274 (21, lv, .inl (x + y) :: st, w) := q_iadd (jd_of jb_274 dX9_turns_20)
theorem p274_21 (lv : jmL) (st : List jmV) (w : jmW) (a : Nat) (j : Int) : rn 274 (21, lv, .inl j :: jvr a :: st, w) = jq_gr (mS w a) 0 j 274 22 lv (.inl (mI w a (jix j)) :: st) (w) := q_iald (jd_of jb_274 dX9_turns_21)
theorem p274_22 (lv : jmL) (st : List jmV) (w : jmW) (x y : Int) : rn 274 (22, lv, .inl y :: .inl x :: st, w) = if jw y < jw x then rn 274 (25, lv, st, w) else rn 274 (31, lv, st, w) := q_icmp_le (jd_of jb_274 dX9_turns_22) (by decide)
theorem p274_25 (lv : jmL) (st : List jmV) (w : jmW) : rn 274 (25, lv, st, w) = jq_inc 274 28 lv 2 (-1) st w (jg lv 2) := q_iinc (jd_of jb_274 dX9_turns_25) (by rw [jm_274]; decide)
theorem p274_28 (lv : jmL) (st : List jmV) (w : jmW) : rn 274 (28, lv, st, w) = rn 274 (4, lv, st, w) := q_goto (jd_of jb_274 dX9_turns_28) (by decide)
theorem p274_31 (lv : jmL) (st : List jmV) (w : jmW) : rn 274 (31, lv, st, w) = jq_ldi 274 32 lv st w (jg lv 2) := q_iload_n (jd_of jb_274 dX9_turns_31) rfl
theorem p274_32 (lv : jmL) (st : List jmV) (w : jmW) : rn 274 (32, lv, st, w) = rn 274 (33, lv, .inl (1) :: st, w) := q_iconst (jd_of jb_274 dX9_turns_32)
theorem p274_33 (lv : jmL) (st : List jmV) (w : jmW) (x y : Int) : rn 274 (33, lv, .inl y :: .inl x :: st, w) = if jw x < jw y then rn 274 (36, lv, st, w) else rn 274 (38, lv, st, w) := q_icmp_ge (jd_of jb_274 dX9_turns_33) (by decide)
theorem p274_36 (lv : jmL) (st : List jmV) (w : jmW) : rn 274 (36, lv, st, w) = rn 274 (37, lv, .inl (0) :: st, w) := q_iconst (jd_of jb_274 dX9_turns_36)
theorem p274_37 (lv : jmL) (w : jmW) (x : Int) : rn 274 (37, lv, [.inl x], w) = jq_b (decide (x = 0 ∨ x = 1)) (some (some (.inl x), w)) := q_zreturn (jd_of jb_274 dX9_turns_37) jr_274
theorem p274_38 (lv : jmL) (st : List jmV) (w : jmW) : rn 274 (38, lv, st, w) = jq_ldi 274 39 lv st w (jg lv 1) := q_iload_n (jd_of jb_274 dX9_turns_38) rfl
theorem p274_39 (lv : jmL) (st : List jmV) (w : jmW) : rn 274 (39, lv, st, w) = rn 274 (40, lv, .inl (1) :: st, w) := q_iconst (jd_of jb_274 dX9_turns_39)
theorem p274_40 (lv : jmL) (st : List jmV) (w : jmW) (x y : Int) : rn 274 (40, lv, .inl y :: .inl x :: st, w) = rn 274 (41, lv, .inl (x - y) :: st, w) := q_isub (jd_of jb_274 dX9_turns_40)
theorem p274_41 (lv : jmL) (st : List jmV) (w : jmW) (x : Int) : rn 274 (41, lv, .inl x :: st, w) = rn 274 (42, js lv 3 (.inl x), st, w) := q_istore_n (jd_of jb_274 dX9_turns_41) rfl (by rw [jm_274]; decide)
theorem p274_42 (lv : jmL) (st : List jmV) (w : jmW) : rn 274 (42, lv, st, w) = jq_lda 274 43 lv st w (jg lv 0) := q_aload_n (jd_of jb_274 dX9_turns_42) rfl
theorem p274_43 (lv : jmL) (st : List jmV) (w : jmW) (a : Nat) : rn 274 (43, lv, jvr a :: st, w) = jq_gs (mS w a) (1, 9, 0) 274 46 lv (.inr (.inr (mR w a 35)) :: st) (w) := q_getf (v := fun w a => .inr (.inr (mR w a 35))) (jd_of jb_274 dX9_turns_43) jo_274 jk_9_48 (fun _ _ => rfl)
theorem p274_46 (lv : jmL) (st : List jmV) (w : jmW) : rn 274 (46, lv, st, w) = jq_ldi 274 47 lv st w (jg lv 3) := q_iload_n (jd_of jb_274 dX9_turns_46) rfl
theorem p274_47 (lv : jmL) (st : List jmV) (w : jmW) (a : Nat) (j : Int) : rn 274 (47, lv, .inl j :: jvr a :: st, w) = jq_gr (mS w a) 0 j 274 48 lv (.inl (mI w a (jix j)) :: st) (w) := q_iald (jd_of jb_274 dX9_turns_47)
theorem p274_48 (lv : jmL) (st : List jmV) (w : jmW) : rn 274 (48, lv, st, w) = jq_lda 274 49 lv st w (jg lv 0) := q_aload_n (jd_of jb_274 dX9_turns_48) rfl
theorem p274_49 (lv : jmL) (st : List jmV) (w : jmW) (a : Nat) : rn 274 (49, lv, jvr a :: st, w) = jq_gs (mS w a) (1, 9, 0) 274 52 lv (.inr (.inr (mR w a 35)) :: st) (w) := q_getf (v := fun w a => .inr (.inr (mR w a 35))) (jd_of jb_274 dX9_turns_49) jo_274 jk_9_48 (fun _ _ => rfl)
theorem p274_52 (lv : jmL) (st : List jmV) (w : jmW) : rn 274 (52, lv, st, w) = jq_ldi 274 53 lv st w (jg lv 2) := q_iload_n (jd_of jb_274 dX9_turns_52) rfl
theorem p274_53 (lv : jmL) (st : List jmV) (w : jmW) (a : Nat) (j : Int) : rn 274 (53, lv, .inl j :: jvr a :: st, w) = jq_gr (mS w a) 0 j 274 54 lv (.inl (mI w a (jix j)) :: st) (w) := q_iald (jd_of jb_274 dX9_turns_53)
theorem p274_54 (lv : jmL) (st : List jmV) (w : jmW) (x y : Int) : rn 274 (54, lv, .inl y :: .inl x :: st, w) = if jw x < jw y then rn 274 (57, lv, st, w) else rn 274 (63, lv, st, w) := q_icmp_ge (jd_of jb_274 dX9_turns_54) (by decide)
theorem p274_57 (lv : jmL) (st : List jmV) (w : jmW) : rn 274 (57, lv, st, w) = jq_inc 274 60 lv 3 (-1) st w (jg lv 3) := q_iinc (jd_of jb_274 dX9_turns_57) (by rw [jm_274]; decide)
theorem p274_60 (lv : jmL) (st : List jmV) (w : jmW) : rn 274 (60, lv, st, w) = rn 274 (42, lv, st, w) := q_goto (jd_of jb_274 dX9_turns_60) (by decide)
theorem p274_63 (lv : jmL) (st : List jmV) (w : jmW) : rn 274 (63, lv, st, w) = jq_lda 274 64 lv st w (jg lv 0) := q_aload_n (jd_of jb_274 dX9_turns_63) rfl
theorem p274_64 (lv : jmL) (st : List jmV) (w : jmW) : rn 274 (64, lv, st, w) = jq_ldi 274 65 lv st w (jg lv 2) := q_iload_n (jd_of jb_274 dX9_turns_64) rfl
theorem p274_65 (lv : jmL) (st : List jmV) (w : jmW) : rn 274 (65, lv, st, w) = jq_ldi 274 66 lv st w (jg lv 3) := q_iload_n (jd_of jb_274 dX9_turns_65) rfl
theorem p274_66 (lv : jmL) (st : List jmV) (w : jmW) (b : Nat) (x1 : Int) (x2 : Int) : rn 274 (66, lv, .inl x2 :: .inl x1 :: jvr b :: st, w) = jq_s (mS w b) (1, 9, 0) (jq_b (decide (jwd st ≤ 8)) (jq_c 274 69 lv st (rn 275 (0, [(0, jvr b), (1, .inl x1), (2, .inl x2)], [], w)))) := q_callv (as := [.inl x1, .inl x2]) (rest := st) (jd_of jb_274 dX9_turns_66) jo_274 jk_9_544 rfl rfl rfl jo_275 jf_274_275 (Nat.le_of_ble_eq_true rfl)
theorem p274_69 (lv : jmL) (st : List jmV) (w : jmW) : rn 274 (69, lv, st, w) = jq_ldi 274 70 lv st w (jg lv 2) := q_iload_n (jd_of jb_274 dX9_turns_69) rfl
theorem p274_70 (lv : jmL) (st : List jmV) (w : jmW) : rn 274 (70, lv, st, w) = rn 274 (71, lv, .inl (1) :: st, w) := q_iconst (jd_of jb_274 dX9_turns_70)
theorem p274_71 (lv : jmL) (st : List jmV) (w : jmW) (x y : Int) : rn 274 (71, lv, .inl y :: .inl x :: st, w) = rn 274 (72, lv, .inl (x + y) :: st, w) := q_iadd (jd_of jb_274 dX9_turns_71)
theorem p274_72 (lv : jmL) (st : List jmV) (w : jmW) (x : Int) : rn 274 (72, lv, .inl x :: st, w) = rn 274 (74, js lv 4 (.inl x), st, w) := q_istore (jd_of jb_274 dX9_turns_72) (by rw [jm_274]; decide)
theorem p274_74 (lv : jmL) (st : List jmV) (w : jmW) : rn 274 (74, lv, st, w) = jq_ldi 274 75 lv st w (jg lv 1) := q_iload_n (jd_of jb_274 dX9_turns_74) rfl
theorem p274_75 (lv : jmL) (st : List jmV) (w : jmW) : rn 274 (75, lv, st, w) = rn 274 (76, lv, .inl (1) :: st, w) := q_iconst (jd_of jb_274 dX9_turns_75)
theorem p274_76 (lv : jmL) (st : List jmV) (w : jmW) (x y : Int) : rn 274 (76, lv, .inl y :: .inl x :: st, w) = rn 274 (77, lv, .inl (x - y) :: st, w) := q_isub (jd_of jb_274 dX9_turns_76)
theorem p274_77 (lv : jmL) (st : List jmV) (w : jmW) (x : Int) : rn 274 (77, lv, .inl x :: st, w) = rn 274 (79, js lv 5 (.inl x), st, w) := q_istore (jd_of jb_274 dX9_turns_77) (by rw [jm_274]; decide)
theorem p274_79 (lv : jmL) (st : List jmV) (w : jmW) : rn 274 (79, lv, st, w) = jq_ldi 274 81 lv st w (jg lv 4) := q_iload (jd_of jb_274 dX9_turns_79)
theorem p274_81 (lv : jmL) (st : List jmV) (w : jmW) : rn 274 (81, lv, st, w) = jq_ldi 274 83 lv st w (jg lv 5) := q_iload (jd_of jb_274 dX9_turns_81)
theorem p274_83 (lv : jmL) (st : List jmV) (w : jmW) (x y : Int) : rn 274 (83, lv, .inl y :: .inl x :: st, w) = if jw x < jw y then rn 274 (86, lv, st, w) else rn 274 (103, lv, st, w) := q_icmp_ge (jd_of jb_274 dX9_turns_83) (by decide)
theorem p274_86 (lv : jmL) (st : List jmV) (w : jmW) : rn 274 (86, lv, st, w) = jq_lda 274 87 lv st w (jg lv 0) := q_aload_n (jd_of jb_274 dX9_turns_86) rfl
theorem p274_87 (lv : jmL) (st : List jmV) (w : jmW) : rn 274 (87, lv, st, w) = jq_ldi 274 89 lv st w (jg lv 4) := q_iload (jd_of jb_274 dX9_turns_87)
theorem p274_89 (lv : jmL) (st : List jmV) (w : jmW) : rn 274 (89, lv, st, w) = jq_ldi 274 91 lv st w (jg lv 5) := q_iload (jd_of jb_274 dX9_turns_89)
theorem p274_91 (lv : jmL) (st : List jmV) (w : jmW) (b : Nat) (x1 : Int) (x2 : Int) : rn 274 (91, lv, .inl x2 :: .inl x1 :: jvr b :: st, w) = jq_s (mS w b) (1, 9, 0) (jq_b (decide (jwd st ≤ 8)) (jq_c 274 94 lv st (rn 275 (0, [(0, jvr b), (1, .inl x1), (2, .inl x2)], [], w)))) := q_callv (as := [.inl x1, .inl x2]) (rest := st) (jd_of jb_274 dX9_turns_91) jo_274 jk_9_544 rfl rfl rfl jo_275 jf_274_275 (Nat.le_of_ble_eq_true rfl)
theorem p274_94 (lv : jmL) (st : List jmV) (w : jmW) : rn 274 (94, lv, st, w) = jq_inc 274 97 lv 4 (1) st w (jg lv 4) := q_iinc (jd_of jb_274 dX9_turns_94) (by rw [jm_274]; decide)
theorem p274_97 (lv : jmL) (st : List jmV) (w : jmW) : rn 274 (97, lv, st, w) = jq_inc 274 100 lv 5 (-1) st w (jg lv 5) := q_iinc (jd_of jb_274 dX9_turns_97) (by rw [jm_274]; decide)
theorem p274_100 (lv : jmL) (st : List jmV) (w : jmW) : rn 274 (100, lv, st, w) = rn 274 (79, lv, st, w) := q_goto (jd_of jb_274 dX9_turns_100) (by decide)
theorem p274_103 (lv : jmL) (st : List jmV) (w : jmW) : rn 274 (103, lv, st, w) = rn 274 (104, lv, .inl (1) :: st, w) := q_iconst (jd_of jb_274 dX9_turns_103)
theorem p274_104 (lv : jmL) (w : jmW) (x : Int) : rn 274 (104, lv, [.inl x], w) = jq_b (decide (x = 0 ∨ x = 1)) (some (some (.inl x), w)) := q_zreturn (jd_of jb_274 dX9_turns_104) jr_274
theorem p275_0 (lv : jmL) (st : List jmV) (w : jmW) : rn 275 (0, lv, st, w) = jq_lda 275 1 lv st w (jg lv 0) := q_aload_n (jd_of jb_275 dX9_swaps_0) rfl
theorem p275_1 (lv : jmL) (st : List jmV) (w : jmW) (a : Nat) : rn 275 (1, lv, jvr a :: st, w) = jq_gs (mS w a) (1, 9, 0) 275 4 lv (.inr (.inr (mR w a 35)) :: st) (w) := q_getf (v := fun w a => .inr (.inr (mR w a 35))) (jd_of jb_275 dX9_swaps_1) jo_275 jk_9_48 (fun _ _ => rfl)
theorem p275_4 (lv : jmL) (st : List jmV) (w : jmW) : rn 275 (4, lv, st, w) = jq_ldi 275 5 lv st w (jg lv 1) := q_iload_n (jd_of jb_275 dX9_swaps_4) rfl
theorem p275_5 (lv : jmL) (st : List jmV) (w : jmW) (a : Nat) (j : Int) : rn 275 (5, lv, .inl j :: jvr a :: st, w) = jq_gr (mS w a) 0 j 275 6 lv (.inl (mI w a (jix j)) :: st) (w) := q_iald (jd_of jb_275 dX9_swaps_5)
theorem p275_6 (lv : jmL) (st : List jmV) (w : jmW) (x : Int) : rn 275 (6, lv, .inl x :: st, w) = rn 275 (7, js lv 3 (.inl x), st, w) := q_istore_n (jd_of jb_275 dX9_swaps_6) rfl (by rw [jm_275]; decide)
theorem p275_7 (lv : jmL) (st : List jmV) (w : jmW) : rn 275 (7, lv, st, w) = jq_lda 275 8 lv st w (jg lv 0) := q_aload_n (jd_of jb_275 dX9_swaps_7) rfl
theorem p275_8 (lv : jmL) (st : List jmV) (w : jmW) (a : Nat) : rn 275 (8, lv, jvr a :: st, w) = jq_gs (mS w a) (1, 9, 0) 275 11 lv (.inr (.inr (mR w a 35)) :: st) (w) := q_getf (v := fun w a => .inr (.inr (mR w a 35))) (jd_of jb_275 dX9_swaps_8) jo_275 jk_9_48 (fun _ _ => rfl)
theorem p275_11 (lv : jmL) (st : List jmV) (w : jmW) : rn 275 (11, lv, st, w) = jq_ldi 275 12 lv st w (jg lv 1) := q_iload_n (jd_of jb_275 dX9_swaps_11) rfl
theorem p275_12 (lv : jmL) (st : List jmV) (w : jmW) : rn 275 (12, lv, st, w) = jq_lda 275 13 lv st w (jg lv 0) := q_aload_n (jd_of jb_275 dX9_swaps_12) rfl
theorem p275_13 (lv : jmL) (st : List jmV) (w : jmW) (a : Nat) : rn 275 (13, lv, jvr a :: st, w) = jq_gs (mS w a) (1, 9, 0) 275 16 lv (.inr (.inr (mR w a 35)) :: st) (w) := q_getf (v := fun w a => .inr (.inr (mR w a 35))) (jd_of jb_275 dX9_swaps_13) jo_275 jk_9_48 (fun _ _ => rfl)
theorem p275_16 (lv : jmL) (st : List jmV) (w : jmW) : rn 275 (16, lv, st, w) = jq_ldi 275 17 lv st w (jg lv 2) := q_iload_n (jd_of jb_275 dX9_swaps_16) rfl
theorem p275_17 (lv : jmL) (st : List jmV) (w : jmW) (a : Nat) (j : Int) : rn 275 (17, lv, .inl j :: jvr a :: st, w) = jq_gr (mS w a) 0 j 275 18 lv (.inl (mI w a (jix j)) :: st) (w) := q_iald (jd_of jb_275 dX9_swaps_17)
theorem p275_18 (lv : jmL) (st : List jmV) (w : jmW) (a : Nat) (j x : Int) : rn 275 (18, lv, .inl x :: .inl j :: jvr a :: st, w) = jq_gw (mS w a) 0 j 275 19 lv (st) (setI w a (jix j) x) := q_iast (jd_of jb_275 dX9_swaps_18)
theorem p275_19 (lv : jmL) (st : List jmV) (w : jmW) : rn 275 (19, lv, st, w) = jq_lda 275 20 lv st w (jg lv 0) := q_aload_n (jd_of jb_275 dX9_swaps_19) rfl
theorem p275_20 (lv : jmL) (st : List jmV) (w : jmW) (a : Nat) : rn 275 (20, lv, jvr a :: st, w) = jq_gs (mS w a) (1, 9, 0) 275 23 lv (.inr (.inr (mR w a 35)) :: st) (w) := q_getf (v := fun w a => .inr (.inr (mR w a 35))) (jd_of jb_275 dX9_swaps_20) jo_275 jk_9_48 (fun _ _ => rfl)
theorem p275_23 (lv : jmL) (st : List jmV) (w : jmW) : rn 275 (23, lv, st, w) = jq_ldi 275 24 lv st w (jg lv 2) := q_iload_n (jd_of jb_275 dX9_swaps_23) rfl
theorem p275_24 (lv : jmL) (st : List jmV) (w : jmW) : rn 275 (24, lv, st, w) = jq_ldi 275 25 lv st w (jg lv 3) := q_iload_n (jd_of jb_275 dX9_swaps_24) rfl
theorem p275_25 (lv : jmL) (st : List jmV) (w : jmW) (a : Nat) (j x : Int) : rn 275 (25, lv, .inl x :: .inl j :: jvr a :: st, w) = jq_gw (mS w a) 0 j 275 26 lv (st) (setI w a (jix j) x) := q_iast (jd_of jb_275 dX9_swaps_25)
theorem p275_26 (lv : jmL) (w : jmW) : rn 275 (26, lv, [], w) = some (none, w) := q_return (jd_of jb_275 dX9_swaps_26) jr_275
theorem p276_0 (lv : jmL) (st : List jmV) (w : jmW) : rn 276 (0, lv, st, w) = jq_lda 276 1 lv st w (jg lv 0) := q_aload_n (jd_of jb_276 dX9_orderAt_0) rfl
theorem p276_1 (lv : jmL) (st : List jmV) (w : jmW) : rn 276 (1, lv, st, w) = rn 276 (2, lv, .inl (0) :: st, w) := q_iconst (jd_of jb_276 dX9_orderAt_1)
theorem p276_2 (lv : jmL) (st : List jmV) (w : jmW) (a : Nat) (x : Int) : rn 276 (2, lv, .inl x :: jvr a :: st, w) = jq_gs (mS w a) (1, 9, 0) 276 5 lv (st) (setI w a 0 x) := q_putf (jd_of jb_276 dX9_orderAt_2) jo_276 jk_9_54 (Or.inl rfl) rfl
theorem p276_5 (lv : jmL) (st : List jmV) (w : jmW) : rn 276 (5, lv, st, w) = jq_lda 276 6 lv st w (jg lv 0) := q_aload_n (jd_of jb_276 dX9_orderAt_5) rfl
theorem p276_6 (lv : jmL) (st : List jmV) (w : jmW) : rn 276 (6, lv, st, w) = jq_ldi 276 7 lv st w (jg lv 1) := q_iload_n (jd_of jb_276 dX9_orderAt_6) rfl
theorem p276_7 (lv : jmL) (st : List jmV) (w : jmW) (b : Nat) (x1 : Int) : rn 276 (7, lv, .inl x1 :: jvr b :: st, w) = jq_s (mS w b) (1, 9, 0) (jq_b (decide (jwd st ≤ 8)) (jq_c 276 10 lv st (rn 220 (0, [(0, jvr b), (1, .inl x1)], [], w)))) := q_callv (as := [.inl x1]) (rest := st) (jd_of jb_276 dX9_orderAt_7) jo_276 jk_9_511 rfl rfl rfl jo_220 jf_276_220 (Nat.le_of_ble_eq_true rfl)
theorem p276_10 (lv : jmL) (st : List jmV) (w : jmW) (x : Int) : rn 276 (10, lv, .inl x :: st, w) = if jw x = 0 then rn 276 (17, lv, st, w) else rn 276 (13, lv, st, w) := q_if_eq (jd_of jb_276 dX9_orderAt_10) (by decide)
theorem p276_13 (lv : jmL) (st : List jmV) (w : jmW) : rn 276 (13, lv, st, w) = jq_ldi 276 14 lv st w (jg lv 1) := q_iload_n (jd_of jb_276 dX9_orderAt_13) rfl
theorem p276_14 (lv : jmL) (st : List jmV) (w : jmW) (x : Int) : rn 276 (14, lv, .inl x :: st, w) = if jw x = 0 then rn 276 (17, lv, st, w) else rn 276 (23, lv, st, w) := q_if_ne (jd_of jb_276 dX9_orderAt_14) (by decide)
theorem p276_17 (lv : jmL) (st : List jmV) (w : jmW) : rn 276 (17, lv, st, w) = jq_lda 276 18 lv st w (jg lv 0) := q_aload_n (jd_of jb_276 dX9_orderAt_17) rfl
theorem p276_18 (lv : jmL) (st : List jmV) (w : jmW) : rn 276 (18, lv, st, w) = rn 276 (19, lv, .inl (1) :: st, w) := q_iconst (jd_of jb_276 dX9_orderAt_18)
theorem p276_19 (lv : jmL) (st : List jmV) (w : jmW) (b : Nat) (x1 : Int) : rn 276 (19, lv, .inl x1 :: jvr b :: st, w) = jq_s (mS w b) (1, 9, 0) (jq_b (decide (jwd st ≤ 8)) (jq_c 276 22 lv st (rn 176 (0, [(0, jvr b), (1, .inl x1)], [], w)))) := q_callv (as := [.inl x1]) (rest := st) (jd_of jb_276 dX9_orderAt_19) jo_276 jk_9_60 rfl rfl rfl jo_176 jf_276_176 (Nat.le_of_ble_eq_true rfl)
theorem p276_22 (lv : jmL) (w : jmW) (x : Int) : rn 276 (22, lv, [.inl x], w) = some (some (.inl x), w) := q_ireturn (jd_of jb_276 dX9_orderAt_22) jr_276
theorem p276_23 (lv : jmL) (st : List jmV) (w : jmW) : rn 276 (23, lv, st, w) = jq_lda 276 24 lv st w (jg lv 0) := q_aload_n (jd_of jb_276 dX9_orderAt_23) rfl
theorem p276_24 (lv : jmL) (st : List jmV) (w : jmW) (a : Nat) : rn 276 (24, lv, jvr a :: st, w) = jq_gs (mS w a) (1, 9, 0) 276 27 lv (.inr (.inr (mR w a 18)) :: st) (w) := q_getf (v := fun w a => .inr (.inr (mR w a 18))) (jd_of jb_276 dX9_orderAt_24) jo_276 jk_9_21 (fun _ _ => rfl)
theorem p276_27 (lv : jmL) (st : List jmV) (w : jmW) : rn 276 (27, lv, st, w) = rn 276 (30, lv, .inl (289) :: st, w) := q_sipush (jd_of jb_276 dX9_orderAt_27) (by decide +kernel)
theorem p276_30 (lv : jmL) (st : List jmV) (w : jmW) (a : Nat) (j : Int) : rn 276 (30, lv, .inl j :: jvr a :: st, w) = jq_gr (mS w a) 0 j 276 31 lv (.inl (mI w a (jix j)) :: st) (w) := q_iald (jd_of jb_276 dX9_orderAt_30)
theorem p276_31 (lv : jmL) (st : List jmV) (w : jmW) : rn 276 (31, lv, st, w) = rn 276 (33, lv, .inl (7) :: st, w) := q_bipush (jd_of jb_276 dX9_orderAt_31) (by decide +kernel)
theorem p276_33 (lv : jmL) (st : List jmV) (w : jmW) (x y : Int) : rn 276 (33, lv, .inl y :: .inl x :: st, w) = if jw y < jw x then rn 276 (36, lv, st, w) else rn 276 (42, lv, st, w) := q_icmp_le (jd_of jb_276 dX9_orderAt_33) (by decide)
theorem p276_36 (lv : jmL) (st : List jmV) (w : jmW) : rn 276 (36, lv, st, w) = jq_lda 276 37 lv st w (jg lv 0) := q_aload_n (jd_of jb_276 dX9_orderAt_36) rfl
theorem p276_37 (lv : jmL) (st : List jmV) (w : jmW) : rn 276 (37, lv, st, w) = rn 276 (38, lv, .inl (3) :: st, w) := q_iconst (jd_of jb_276 dX9_orderAt_37)
theorem p276_38 (lv : jmL) (st : List jmV) (w : jmW) (b : Nat) (x1 : Int) : rn 276 (38, lv, .inl x1 :: jvr b :: st, w) = jq_s (mS w b) (1, 9, 0) (jq_b (decide (jwd st ≤ 8)) (jq_c 276 41 lv st (rn 176 (0, [(0, jvr b), (1, .inl x1)], [], w)))) := q_callv (as := [.inl x1]) (rest := st) (jd_of jb_276 dX9_orderAt_38) jo_276 jk_9_60 rfl rfl rfl jo_176 jf_276_176 (Nat.le_of_ble_eq_true rfl)
theorem p276_41 (lv : jmL) (w : jmW) (x : Int) : rn 276 (41, lv, [.inl x], w) = some (some (.inl x), w) := q_ireturn (jd_of jb_276 dX9_orderAt_41) jr_276
theorem p276_42 (lv : jmL) (st : List jmV) (w : jmW) : rn 276 (42, lv, st, w) = jq_lda 276 43 lv st w (jg lv 0) := q_aload_n (jd_of jb_276 dX9_orderAt_42) rfl
theorem p276_43 (lv : jmL) (st : List jmV) (w : jmW) (b : Nat) : rn 276 (43, lv, jvr b :: st, w) = jq_s (mS w b) (1, 9, 0) (jq_b (decide (jwd st ≤ 8)) (jq_c 276 46 lv st (rn 273 (0, [(0, jvr b)], [], w)))) := q_callv (as := []) (rest := st) (jd_of jb_276 dX9_orderAt_43) jo_276 jk_9_548 rfl rfl rfl jo_273 jf_276_273 (Nat.le_of_ble_eq_true rfl)
theorem p276_46 (lv : jmL) (st : List jmV) (w : jmW) : rn 276 (46, lv, st, w) = jq_lda 276 47 lv st w (jg lv 0) := q_aload_n (jd_of jb_276 dX9_orderAt_46) rfl
theorem p276_47 (lv : jmL) (st : List jmV) (w : jmW) : rn 276 (47, lv, st, w) = jq_lda 276 48 lv st w (jg lv 0) := q_aload_n (jd_of jb_276 dX9_orderAt_47) rfl
theorem p276_48 (lv : jmL) (st : List jmV) (w : jmW) (a : Nat) : rn 276 (48, lv, jvr a :: st, w) = jq_gs (mS w a) (1, 9, 0) 276 51 lv (.inr (.inr (mR w a 36)) :: st) (w) := q_getf (v := fun w a => .inr (.inr (mR w a 36))) (jd_of jb_276 dX9_orderAt_48) jo_276 jk_9_51 (fun _ _ => rfl)
theorem p276_51 (lv : jmL) (st : List jmV) (w : jmW) : rn 276 (51, lv, st, w) = jq_ldi 276 52 lv st w (jg lv 1) := q_iload_n (jd_of jb_276 dX9_orderAt_51) rfl
theorem p276_52 (lv : jmL) (st : List jmV) (w : jmW) (a : Nat) (j : Int) : rn 276 (52, lv, .inl j :: jvr a :: st, w) = jq_gr (mS w a) 0 j 276 53 lv (.inl (mI w a (jix j)) :: st) (w) := q_iald (jd_of jb_276 dX9_orderAt_52)
theorem p276_53 (lv : jmL) (st : List jmV) (w : jmW) (b : Nat) (x1 : Int) : rn 276 (53, lv, .inl x1 :: jvr b :: st, w) = jq_s (mS w b) (1, 9, 0) (jq_b (decide (jwd st ≤ 8)) (jq_c 276 56 lv st (rn 213 (0, [(0, jvr b), (1, .inl x1)], [], w)))) := q_callv (as := [.inl x1]) (rest := st) (jd_of jb_276 dX9_orderAt_53) jo_276 jk_9_64 rfl rfl rfl jo_213 jf_276_213 (Nat.le_of_ble_eq_true rfl)
theorem p276_56 (lv : jmL) (w : jmW) (x : Int) : rn 276 (56, lv, [.inl x], w) = some (some (.inl x), w) := q_ireturn (jd_of jb_276 dX9_orderAt_56) jr_276
theorem p277_0 (lv : jmL) (st : List jmV) (w : jmW) : rn 277 (0, lv, st, w) = jq_lda 277 1 lv st w (jg lv 0) := q_aload_n (jd_of jb_277 dX9_leader_0) rfl
theorem p277_1 (lv : jmL) (st : List jmV) (w : jmW) : rn 277 (1, lv, st, w) = rn 277 (2, lv, .inl (0) :: st, w) := q_iconst (jd_of jb_277 dX9_leader_1)
theorem p277_2 (lv : jmL) (st : List jmV) (w : jmW) (a : Nat) (x : Int) : rn 277 (2, lv, .inl x :: jvr a :: st, w) = jq_gs (mS w a) (1, 9, 0) 277 5 lv (st) (setI w a 0 x) := q_putf (jd_of jb_277 dX9_leader_2) jo_277 jk_9_54 (Or.inl rfl) rfl
theorem p277_5 (lv : jmL) (st : List jmV) (w : jmW) : rn 277 (5, lv, st, w) = jq_lda 277 6 lv st w (jg lv 0) := q_aload_n (jd_of jb_277 dX9_leader_5) rfl
theorem p277_6 (lv : jmL) (st : List jmV) (w : jmW) : rn 277 (6, lv, st, w) = jq_ldi 277 7 lv st w (jg lv 1) := q_iload_n (jd_of jb_277 dX9_leader_6) rfl
theorem p277_7 (lv : jmL) (st : List jmV) (w : jmW) (b : Nat) (x1 : Int) : rn 277 (7, lv, .inl x1 :: jvr b :: st, w) = jq_s (mS w b) (1, 9, 0) (jq_b (decide (jwd st ≤ 8)) (jq_c 277 10 lv st (rn 234 (0, [(0, jvr b), (1, .inl x1)], [], w)))) := q_callv (as := [.inl x1]) (rest := st) (jd_of jb_277 dX9_leader_7) jo_277 jk_9_517 rfl rfl rfl jo_234 jf_277_234 (Nat.le_of_ble_eq_true rfl)
theorem p277_10 (lv : jmL) (st : List jmV) (w : jmW) (x : Int) : rn 277 (10, lv, .inl x :: st, w) = rn 277 (11, js lv 2 (.inl x), st, w) := q_istore_n (jd_of jb_277 dX9_leader_10) rfl (by rw [jm_277]; decide)
theorem p277_11 (lv : jmL) (st : List jmV) (w : jmW) : rn 277 (11, lv, st, w) = jq_ldi 277 12 lv st w (jg lv 2) := q_iload_n (jd_of jb_277 dX9_leader_11) rfl
theorem p277_12 (lv : jmL) (st : List jmV) (w : jmW) (x : Int) : rn 277 (12, lv, .inl x :: st, w) = if 0 < jw x then rn 277 (15, lv, st, w) else rn 277 (21, lv, st, w) := q_if_le (jd_of jb_277 dX9_leader_12) (by decide)
theorem p277_15 (lv : jmL) (st : List jmV) (w : jmW) : rn 277 (15, lv, st, w) = jq_lda 277 16 lv st w (jg lv 0) := q_aload_n (jd_of jb_277 dX9_leader_15) rfl
theorem p277_16 (lv : jmL) (st : List jmV) (w : jmW) : rn 277 (16, lv, st, w) = jq_ldi 277 17 lv st w (jg lv 2) := q_iload_n (jd_of jb_277 dX9_leader_16) rfl
theorem p277_17 (lv : jmL) (st : List jmV) (w : jmW) (b : Nat) (x1 : Int) : rn 277 (17, lv, .inl x1 :: jvr b :: st, w) = jq_s (mS w b) (1, 9, 0) (jq_b (decide (jwd st ≤ 8)) (jq_c 277 20 lv st (rn 176 (0, [(0, jvr b), (1, .inl x1)], [], w)))) := q_callv (as := [.inl x1]) (rest := st) (jd_of jb_277 dX9_leader_17) jo_277 jk_9_60 rfl rfl rfl jo_176 jf_277_176 (Nat.le_of_ble_eq_true rfl)
theorem p277_20 (lv : jmL) (w : jmW) (x : Int) : rn 277 (20, lv, [.inl x], w) = some (some (.inl x), w) := q_ireturn (jd_of jb_277 dX9_leader_20) jr_277
theorem p277_21 (lv : jmL) (st : List jmV) (w : jmW) : rn 277 (21, lv, st, w) = rn 277 (22, lv, .inl (0) :: st, w) := q_iconst (jd_of jb_277 dX9_leader_21)
theorem p277_22 (lv : jmL) (st : List jmV) (w : jmW) (x : Int) : rn 277 (22, lv, .inl x :: st, w) = rn 277 (23, js lv 3 (.inl x), st, w) := q_istore_n (jd_of jb_277 dX9_leader_22) rfl (by rw [jm_277]; decide)
theorem p277_23 (lv : jmL) (st : List jmV) (w : jmW) : rn 277 (23, lv, st, w) = rn 277 (24, lv, .inl (-1) :: st, w) := q_iconst (jd_of jb_277 dX9_leader_23)
theorem p277_24 (lv : jmL) (st : List jmV) (w : jmW) (x : Int) : rn 277 (24, lv, .inl x :: st, w) = rn 277 (26, js lv 4 (.inl x), st, w) := q_istore (jd_of jb_277 dX9_leader_24) (by rw [jm_277]; decide)
theorem p277_26 (lv : jmL) (st : List jmV) (w : jmW) : rn 277 (26, lv, st, w) = rn 277 (27, lv, .inl (0) :: st, w) := q_iconst (jd_of jb_277 dX9_leader_26)
theorem p277_27 (lv : jmL) (st : List jmV) (w : jmW) (x : Int) : rn 277 (27, lv, .inl x :: st, w) = rn 277 (29, js lv 5 (.inl x), st, w) := q_istore (jd_of jb_277 dX9_leader_27) (by rw [jm_277]; decide)
theorem p277_29 (lv : jmL) (st : List jmV) (w : jmW) : rn 277 (29, lv, st, w) = jq_ldi 277 31 lv st w (jg lv 5) := q_iload (jd_of jb_277 dX9_leader_29)
theorem p277_31 (lv : jmL) (st : List jmV) (w : jmW) : rn 277 (31, lv, st, w) = rn 277 (32, lv, .inl (5) :: st, w) := q_iconst (jd_of jb_277 dX9_leader_31)
theorem p277_32 (lv : jmL) (st : List jmV) (w : jmW) (x y : Int) : rn 277 (32, lv, .inl y :: .inl x :: st, w) = if jw x < jw y then rn 277 (35, lv, st, w) else rn 277 (121, lv, st, w) := q_icmp_ge (jd_of jb_277 dX9_leader_32) (by decide)
theorem p277_35 (lv : jmL) (st : List jmV) (w : jmW) : rn 277 (35, lv, st, w) = jq_ldi 277 37 lv st w (jg lv 5) := q_iload (jd_of jb_277 dX9_leader_35)
theorem p277_37 (lv : jmL) (st : List jmV) (w : jmW) : rn 277 (37, lv, st, w) = rn 277 (38, lv, .inl (3) :: st, w) := q_iconst (jd_of jb_277 dX9_leader_37)
theorem p277_38 (lv : jmL) (st : List jmV) (w : jmW) (x y : Int) : rn 277 (38, lv, .inl y :: .inl x :: st, w) = if jw x = jw y then rn 277 (41, lv, st, w) else rn 277 (44, lv, st, w) := q_icmp_ne (jd_of jb_277 dX9_leader_38) (by decide)
theorem p277_41 (lv : jmL) (st : List jmV) (w : jmW) : rn 277 (41, lv, st, w) = rn 277 (115, lv, st, w) := q_goto (jd_of jb_277 dX9_leader_41) (by decide)
theorem p277_44 (lv : jmL) (st : List jmV) (w : jmW) : rn 277 (44, lv, st, w) = jq_lda 277 45 lv st w (jg lv 0) := q_aload_n (jd_of jb_277 dX9_leader_44) rfl
theorem p277_45 (lv : jmL) (st : List jmV) (w : jmW) (b : Nat) : rn 277 (45, lv, jvr b :: st, w) = jq_s (mS w b) (1, 9, 0) (jq_b (decide (jwd st ≤ 8)) (jq_c 277 48 lv st (rn 236 (0, [(0, jvr b)], [], w)))) := q_callv (as := []) (rest := st) (jd_of jb_277 dX9_leader_45) jo_277 jk_9_498 rfl rfl rfl jo_236 jf_277_236 (Nat.le_of_ble_eq_true rfl)
theorem p277_48 (lv : jmL) (st : List jmV) (w : jmW) : rn 277 (48, lv, st, w) = jq_lda 277 49 lv st w (jg lv 0) := q_aload_n (jd_of jb_277 dX9_leader_48) rfl
theorem p277_49 (lv : jmL) (st : List jmV) (w : jmW) (b : Nat) : rn 277 (49, lv, jvr b :: st, w) = jq_s (mS w b) (1, 9, 0) (jq_b (decide (jwd st ≤ 8)) (jq_c 277 52 lv st (rn 237 (0, [(0, jvr b)], [], w)))) := q_callv (as := []) (rest := st) (jd_of jb_277 dX9_leader_49) jo_277 jk_9_501 rfl rfl rfl jo_237 jf_277_237 (Nat.le_of_ble_eq_true rfl)
theorem p277_52 (lv : jmL) (st : List jmV) (w : jmW) : rn 277 (52, lv, st, w) = jq_lda 277 53 lv st w (jg lv 0) := q_aload_n (jd_of jb_277 dX9_leader_52) rfl
theorem p277_53 (lv : jmL) (st : List jmV) (w : jmW) (a : Nat) : rn 277 (53, lv, jvr a :: st, w) = jq_gs (mS w a) (1, 9, 0) 277 56 lv (.inr (.inr (mR w a 19)) :: st) (w) := q_getf (v := fun w a => .inr (.inr (mR w a 19))) (jd_of jb_277 dX9_leader_53) jo_277 jk_9_24 (fun _ _ => rfl)
theorem p277_56 (lv : jmL) (st : List jmV) (w : jmW) : rn 277 (56, lv, st, w) = rn 277 (59, lv, .inl (291) :: st, w) := q_sipush (jd_of jb_277 dX9_leader_56) (by decide +kernel)
theorem p277_59 (lv : jmL) (st : List jmV) (w : jmW) : rn 277 (59, lv, st, w) = jq_ldi 277 61 lv st w (jg lv 5) := q_iload (jd_of jb_277 dX9_leader_59)
theorem p277_61 (lv : jmL) (st : List jmV) (w : jmW) (a : Nat) (j x : Int) : rn 277 (61, lv, .inl x :: .inl j :: jvr a :: st, w) = jq_gw (mS w a) 0 j 277 62 lv (st) (setI w a (jix j) x) := q_iast (jd_of jb_277 dX9_leader_61)
theorem p277_62 (lv : jmL) (st : List jmV) (w : jmW) : rn 277 (62, lv, st, w) = rn 277 (63, lv, .inl (0) :: st, w) := q_iconst (jd_of jb_277 dX9_leader_62)
theorem p277_63 (lv : jmL) (st : List jmV) (w : jmW) (x : Int) : rn 277 (63, lv, .inl x :: st, w) = rn 277 (65, js lv 6 (.inl x), st, w) := q_istore (jd_of jb_277 dX9_leader_63) (by rw [jm_277]; decide)
theorem p277_65 (lv : jmL) (st : List jmV) (w : jmW) : rn 277 (65, lv, st, w) = jq_ldi 277 67 lv st w (jg lv 6) := q_iload (jd_of jb_277 dX9_leader_65)
theorem p277_67 (lv : jmL) (st : List jmV) (w : jmW) : rn 277 (67, lv, st, w) = jq_ldi 277 68 lv st w (jg lv 1) := q_iload_n (jd_of jb_277 dX9_leader_67) rfl
theorem p277_68 (lv : jmL) (st : List jmV) (w : jmW) (x y : Int) : rn 277 (68, lv, .inl y :: .inl x :: st, w) = if jw x < jw y then rn 277 (71, lv, st, w) else rn 277 (86, lv, st, w) := q_icmp_ge (jd_of jb_277 dX9_leader_68) (by decide)
theorem p277_71 (lv : jmL) (st : List jmV) (w : jmW) : rn 277 (71, lv, st, w) = jq_lda 277 72 lv st w (jg lv 0) := q_aload_n (jd_of jb_277 dX9_leader_71) rfl
theorem p277_72 (lv : jmL) (st : List jmV) (w : jmW) : rn 277 (72, lv, st, w) = jq_lda 277 73 lv st w (jg lv 0) := q_aload_n (jd_of jb_277 dX9_leader_72) rfl
theorem p277_73 (lv : jmL) (st : List jmV) (w : jmW) (a : Nat) : rn 277 (73, lv, jvr a :: st, w) = jq_gs (mS w a) (1, 9, 0) 277 76 lv (.inr (.inr (mR w a 19)) :: st) (w) := q_getf (v := fun w a => .inr (.inr (mR w a 19))) (jd_of jb_277 dX9_leader_73) jo_277 jk_9_24 (fun _ _ => rfl)
theorem p277_76 (lv : jmL) (st : List jmV) (w : jmW) : rn 277 (76, lv, st, w) = rn 277 (77, lv, .inl (0) :: st, w) := q_iconst (jd_of jb_277 dX9_leader_76)
theorem p277_77 (lv : jmL) (st : List jmV) (w : jmW) (b : Nat) (x1 : Option Nat) (x2 : Int) : rn 277 (77, lv, .inl x2 :: .inr (.inr x1) :: jvr b :: st, w) = jq_s (mS w b) (1, 9, 0) (jq_b (decide (jwd st ≤ 8)) (jq_c 277 80 lv st (rn 238 (0, [(0, jvr b), (1, .inr (.inr x1)), (2, .inl x2)], [], w)))) := q_callv (as := [.inr (.inr x1), .inl x2]) (rest := st) (jd_of jb_277 dX9_leader_77) jo_277 jk_9_504 rfl rfl rfl jo_238 jf_277_238 (Nat.le_of_ble_eq_true rfl)
theorem p277_80 (lv : jmL) (st : List jmV) (w : jmW) : rn 277 (80, lv, st, w) = jq_inc 277 83 lv 6 (1) st w (jg lv 6) := q_iinc (jd_of jb_277 dX9_leader_80) (by rw [jm_277]; decide)
theorem p277_83 (lv : jmL) (st : List jmV) (w : jmW) : rn 277 (83, lv, st, w) = rn 277 (65, lv, st, w) := q_goto (jd_of jb_277 dX9_leader_83) (by decide)
theorem p277_86 (lv : jmL) (st : List jmV) (w : jmW) : rn 277 (86, lv, st, w) = jq_lda 277 87 lv st w (jg lv 0) := q_aload_n (jd_of jb_277 dX9_leader_86) rfl
theorem p277_87 (lv : jmL) (st : List jmV) (w : jmW) (a : Nat) : rn 277 (87, lv, jvr a :: st, w) = jq_gs (mS w a) (1, 9, 0) 277 90 lv (.inr (.inr (mR w a 19)) :: st) (w) := q_getf (v := fun w a => .inr (.inr (mR w a 19))) (jd_of jb_277 dX9_leader_87) jo_277 jk_9_24 (fun _ _ => rfl)
theorem p277_90 (lv : jmL) (st : List jmV) (w : jmW) : rn 277 (90, lv, st, w) = rn 277 (93, lv, .inl (289) :: st, w) := q_sipush (jd_of jb_277 dX9_leader_90) (by decide +kernel)
theorem p277_93 (lv : jmL) (st : List jmV) (w : jmW) (a : Nat) (j : Int) : rn 277 (93, lv, .inl j :: jvr a :: st, w) = jq_gr (mS w a) 0 j 277 94 lv (.inl (mI w a (jix j)) :: st) (w) := q_iald (jd_of jb_277 dX9_leader_93)
theorem p277_94 (lv : jmL) (st : List jmV) (w : jmW) : rn 277 (94, lv, st, w) = jq_ldi 277 96 lv st w (jg lv 4) := q_iload (jd_of jb_277 dX9_leader_94)
theorem p277_96 (lv : jmL) (st : List jmV) (w : jmW) (x y : Int) : rn 277 (96, lv, .inl y :: .inl x :: st, w) = if jw y < jw x then rn 277 (102, lv, st, w) else rn 277 (99, lv, st, w) := q_icmp_gt (jd_of jb_277 dX9_leader_96) (by decide)
theorem p277_99 (lv : jmL) (st : List jmV) (w : jmW) : rn 277 (99, lv, st, w) = rn 277 (115, lv, st, w) := q_goto (jd_of jb_277 dX9_leader_99) (by decide)
theorem p277_102 (lv : jmL) (st : List jmV) (w : jmW) : rn 277 (102, lv, st, w) = jq_ldi 277 104 lv st w (jg lv 5) := q_iload (jd_of jb_277 dX9_leader_102)
theorem p277_104 (lv : jmL) (st : List jmV) (w : jmW) (x : Int) : rn 277 (104, lv, .inl x :: st, w) = rn 277 (105, js lv 3 (.inl x), st, w) := q_istore_n (jd_of jb_277 dX9_leader_104) rfl (by rw [jm_277]; decide)
theorem p277_105 (lv : jmL) (st : List jmV) (w : jmW) : rn 277 (105, lv, st, w) = jq_lda 277 106 lv st w (jg lv 0) := q_aload_n (jd_of jb_277 dX9_leader_105) rfl
theorem p277_106 (lv : jmL) (st : List jmV) (w : jmW) (a : Nat) : rn 277 (106, lv, jvr a :: st, w) = jq_gs (mS w a) (1, 9, 0) 277 109 lv (.inr (.inr (mR w a 19)) :: st) (w) := q_getf (v := fun w a => .inr (.inr (mR w a 19))) (jd_of jb_277 dX9_leader_106) jo_277 jk_9_24 (fun _ _ => rfl)
theorem p277_109 (lv : jmL) (st : List jmV) (w : jmW) : rn 277 (109, lv, st, w) = rn 277 (112, lv, .inl (289) :: st, w) := q_sipush (jd_of jb_277 dX9_leader_109) (by decide +kernel)
theorem p277_112 (lv : jmL) (st : List jmV) (w : jmW) (a : Nat) (j : Int) : rn 277 (112, lv, .inl j :: jvr a :: st, w) = jq_gr (mS w a) 0 j 277 113 lv (.inl (mI w a (jix j)) :: st) (w) := q_iald (jd_of jb_277 dX9_leader_112)
theorem p277_113 (lv : jmL) (st : List jmV) (w : jmW) (x : Int) : rn 277 (113, lv, .inl x :: st, w) = rn 277 (115, js lv 4 (.inl x), st, w) := q_istore (jd_of jb_277 dX9_leader_113) (by rw [jm_277]; decide)
theorem p277_115 (lv : jmL) (st : List jmV) (w : jmW) : rn 277 (115, lv, st, w) = jq_inc 277 118 lv 5 (1) st w (jg lv 5) := q_iinc (jd_of jb_277 dX9_leader_115) (by rw [jm_277]; decide)
theorem p277_118 (lv : jmL) (st : List jmV) (w : jmW) : rn 277 (118, lv, st, w) = rn 277 (29, lv, st, w) := q_goto (jd_of jb_277 dX9_leader_118) (by decide)
theorem p277_121 (lv : jmL) (st : List jmV) (w : jmW) : rn 277 (121, lv, st, w) = jq_lda 277 122 lv st w (jg lv 0) := q_aload_n (jd_of jb_277 dX9_leader_121) rfl
theorem p277_122 (lv : jmL) (st : List jmV) (w : jmW) : rn 277 (122, lv, st, w) = jq_ldi 277 123 lv st w (jg lv 3) := q_iload_n (jd_of jb_277 dX9_leader_122) rfl
theorem p277_123 (lv : jmL) (st : List jmV) (w : jmW) (b : Nat) (x1 : Int) : rn 277 (123, lv, .inl x1 :: jvr b :: st, w) = jq_s (mS w b) (1, 9, 0) (jq_b (decide (jwd st ≤ 8)) (jq_c 277 126 lv st (rn 213 (0, [(0, jvr b), (1, .inl x1)], [], w)))) := q_callv (as := [.inl x1]) (rest := st) (jd_of jb_277 dX9_leader_123) jo_277 jk_9_64 rfl rfl rfl jo_213 jf_277_213 (Nat.le_of_ble_eq_true rfl)
theorem p277_126 (lv : jmL) (w : jmW) (x : Int) : rn 277 (126, lv, [.inl x], w) = some (some (.inl x), w) := q_ireturn (jd_of jb_277 dX9_leader_126) jr_277
theorem p278_0 (lv : jmL) (st : List jmV) (w : jmW) : rn 278 (0, lv, st, w) = jq_lda 278 1 lv st w (jg lv 0) := q_aload_n (jd_of jb_278 dX9_plan_0) rfl
theorem p278_1 (lv : jmL) (st : List jmV) (w : jmW) : rn 278 (1, lv, st, w) = rn 278 (2, lv, .inl (0) :: st, w) := q_iconst (jd_of jb_278 dX9_plan_1)
theorem p278_2 (lv : jmL) (st : List jmV) (w : jmW) (a : Nat) (x : Int) : rn 278 (2, lv, .inl x :: jvr a :: st, w) = jq_gs (mS w a) (1, 9, 0) 278 5 lv (st) (setI w a 0 x) := q_putf (jd_of jb_278 dX9_plan_2) jo_278 jk_9_54 (Or.inl rfl) rfl
theorem p278_5 (lv : jmL) (st : List jmV) (w : jmW) : rn 278 (5, lv, st, w) = jq_lda 278 6 lv st w (jg lv 0) := q_aload_n (jd_of jb_278 dX9_plan_5) rfl
theorem p278_6 (lv : jmL) (st : List jmV) (w : jmW) : rn 278 (6, lv, st, w) = jq_ldi 278 7 lv st w (jg lv 1) := q_iload_n (jd_of jb_278 dX9_plan_6) rfl
theorem p278_7 (lv : jmL) (st : List jmV) (w : jmW) (b : Nat) (x1 : Int) : rn 278 (7, lv, .inl x1 :: jvr b :: st, w) = jq_s (mS w b) (1, 9, 0) (jq_b (decide (jwd st ≤ 8)) (jq_c 278 10 lv st (rn 279 (0, [(0, jvr b), (1, .inl x1)], [], w)))) := q_callv (as := [.inl x1]) (rest := st) (jd_of jb_278 dX9_plan_7) jo_278 jk_9_557 rfl rfl rfl jo_279 jf_278_279 (Nat.le_of_ble_eq_true rfl)
theorem p278_10 (lv : jmL) (st : List jmV) (w : jmW) (x : Int) : rn 278 (10, lv, .inl x :: st, w) = rn 278 (11, js lv 2 (.inl x), st, w) := q_istore_n (jd_of jb_278 dX9_plan_10) rfl (by rw [jm_278]; decide)
theorem p278_11 (lv : jmL) (st : List jmV) (w : jmW) : rn 278 (11, lv, st, w) = jq_ldi 278 12 lv st w (jg lv 2) := q_iload_n (jd_of jb_278 dX9_plan_11) rfl
theorem p278_12 (lv : jmL) (st : List jmV) (w : jmW) (x : Int) : rn 278 (12, lv, .inl x :: st, w) = if 0 < jw x then rn 278 (15, lv, st, w) else rn 278 (21, lv, st, w) := q_if_le (jd_of jb_278 dX9_plan_12) (by decide)
theorem p278_15 (lv : jmL) (st : List jmV) (w : jmW) : rn 278 (15, lv, st, w) = jq_lda 278 16 lv st w (jg lv 0) := q_aload_n (jd_of jb_278 dX9_plan_15) rfl
theorem p278_16 (lv : jmL) (st : List jmV) (w : jmW) : rn 278 (16, lv, st, w) = jq_ldi 278 17 lv st w (jg lv 2) := q_iload_n (jd_of jb_278 dX9_plan_16) rfl
theorem p278_17 (lv : jmL) (st : List jmV) (w : jmW) (b : Nat) (x1 : Int) : rn 278 (17, lv, .inl x1 :: jvr b :: st, w) = jq_s (mS w b) (1, 9, 0) (jq_b (decide (jwd st ≤ 8)) (jq_c 278 20 lv st (rn 176 (0, [(0, jvr b), (1, .inl x1)], [], w)))) := q_callv (as := [.inl x1]) (rest := st) (jd_of jb_278 dX9_plan_17) jo_278 jk_9_60 rfl rfl rfl jo_176 jf_278_176 (Nat.le_of_ble_eq_true rfl)
theorem p278_20 (lv : jmL) (w : jmW) (x : Int) : rn 278 (20, lv, [.inl x], w) = some (some (.inl x), w) := q_ireturn (jd_of jb_278 dX9_plan_20) jr_278
theorem p278_21 (lv : jmL) (st : List jmV) (w : jmW) : rn 278 (21, lv, st, w) = jq_lda 278 22 lv st w (jg lv 0) := q_aload_n (jd_of jb_278 dX9_plan_21) rfl
theorem p278_22 (lv : jmL) (st : List jmV) (w : jmW) : rn 278 (22, lv, st, w) = jq_ldi 278 23 lv st w (jg lv 1) := q_iload_n (jd_of jb_278 dX9_plan_22) rfl
theorem p278_23 (lv : jmL) (st : List jmV) (w : jmW) (b : Nat) (x1 : Int) : rn 278 (23, lv, .inl x1 :: jvr b :: st, w) = jq_s (mS w b) (1, 9, 0) (jq_b (decide (jwd st ≤ 8)) (jq_c 278 26 lv st (rn 280 (0, [(0, jvr b), (1, .inl x1)], [], w)))) := q_callv (as := [.inl x1]) (rest := st) (jd_of jb_278 dX9_plan_23) jo_278 jk_9_560 rfl rfl rfl jo_280 jf_278_280 (Nat.le_of_ble_eq_true rfl)
theorem p278_26 (lv : jmL) (st : List jmV) (w : jmW) : rn 278 (26, lv, st, w) = jq_lda 278 27 lv st w (jg lv 0) := q_aload_n (jd_of jb_278 dX9_plan_26) rfl
theorem p278_27 (lv : jmL) (st : List jmV) (w : jmW) : rn 278 (27, lv, st, w) = jq_lda 278 28 lv st w (jg lv 0) := q_aload_n (jd_of jb_278 dX9_plan_27) rfl
theorem p278_28 (lv : jmL) (st : List jmV) (w : jmW) (a : Nat) : rn 278 (28, lv, jvr a :: st, w) = jq_gs (mS w a) (1, 9, 0) 278 31 lv (.inl (mI w a 39) :: st) (w) := q_getf (v := fun w a => .inl (mI w a 39)) (jd_of jb_278 dX9_plan_28) jo_278 jk_9_551 (fun _ _ => rfl)
theorem p278_31 (lv : jmL) (st : List jmV) (w : jmW) (b : Nat) (x1 : Int) : rn 278 (31, lv, .inl x1 :: jvr b :: st, w) = jq_s (mS w b) (1, 9, 0) (jq_b (decide (jwd st ≤ 8)) (jq_c 278 34 lv st (rn 213 (0, [(0, jvr b), (1, .inl x1)], [], w)))) := q_callv (as := [.inl x1]) (rest := st) (jd_of jb_278 dX9_plan_31) jo_278 jk_9_64 rfl rfl rfl jo_213 jf_278_213 (Nat.le_of_ble_eq_true rfl)
theorem p278_34 (lv : jmL) (w : jmW) (x : Int) : rn 278 (34, lv, [.inl x], w) = some (some (.inl x), w) := q_ireturn (jd_of jb_278 dX9_plan_34) jr_278
theorem p279_0 (lv : jmL) (st : List jmV) (w : jmW) : rn 279 (0, lv, st, w) = jq_lda 279 1 lv st w (jg lv 0) := q_aload_n (jd_of jb_279 dX9_refusesPlan_0) rfl
theorem p279_1 (lv : jmL) (st : List jmV) (w : jmW) (a : Nat) : rn 279 (1, lv, jvr a :: st, w) = jq_gs (mS w a) (1, 9, 0) 279 4 lv (.inr (.inr (mR w a 3)) :: st) (w) := q_getf (v := fun w a => .inr (.inr (mR w a 3))) (jd_of jb_279 dX9_refusesPlan_1) jo_279 jk_9_389 (fun _ _ => rfl)
theorem p279_4n (lv : jmL) (st : List jmV) (w : jmW) : rn 279 (4, lv, .inr (.inr none) :: st, w) = rn 279 (7, lv, st, w) := q_ifnonnull_n (tgt := 11) (jd_of jb_279 dX9_refusesPlan_4) (by decide)
theorem p279_4s (lv : jmL) (st : List jmV) (w : jmW) (a : Nat) : rn 279 (4, lv, .inr (.inr (some a)) :: st, w) = rn 279 (11, lv, st, w) := q_ifnonnull_s (tgt := 11) (jd_of jb_279 dX9_refusesPlan_4) (by decide)
theorem p279_7 (lv : jmL) (st : List jmV) (w : jmW) : rn 279 (7, lv, st, w) = rn 279 (8, lv, .inl (1) :: st, w) := q_iconst (jd_of jb_279 dX9_refusesPlan_7)
theorem p279_8 (lv : jmL) (st : List jmV) (w : jmW) : rn 279 (8, lv, st, w) = rn 279 (25, lv, st, w) := q_goto (jd_of jb_279 dX9_refusesPlan_8) (by decide)
theorem p279_11 (lv : jmL) (st : List jmV) (w : jmW) : rn 279 (11, lv, st, w) = jq_ldi 279 12 lv st w (jg lv 1) := q_iload_n (jd_of jb_279 dX9_refusesPlan_11) rfl
theorem p279_12 (lv : jmL) (st : List jmV) (w : jmW) : rn 279 (12, lv, st, w) = rn 279 (13, lv, .inl (1) :: st, w) := q_iconst (jd_of jb_279 dX9_refusesPlan_12)
theorem p279_13 (lv : jmL) (st : List jmV) (w : jmW) : rn 279 (13, lv, st, w) = rn 279 (14, lv, .inl (5) :: st, w) := q_iconst (jd_of jb_279 dX9_refusesPlan_13)
theorem p279_14 (lv : jmL) (st : List jmV) (w : jmW) (x1 : Int) (x2 : Int) (x3 : Int) : rn 279 (14, lv, .inl x3 :: .inl x2 :: .inl x1 :: st, w) = jq_b (decide (jwd st ≤ 8)) (jq_c 279 17 lv st (rn 192 (0, [(0, .inl x1), (1, .inl x2), (2, .inl x3)], [], w))) := q_calls (as := [.inl x1, .inl x2, .inl x3]) (rest := st) (jd_of jb_279 dX9_refusesPlan_14) jo_279 jk_9_135 rfl rfl rfl jf_279_192 (Nat.le_of_ble_eq_true rfl)
theorem p279_17 (lv : jmL) (st : List jmV) (w : jmW) (x : Int) : rn 279 (17, lv, .inl x :: st, w) = if jw x = 0 then rn 279 (24, lv, st, w) else rn 279 (20, lv, st, w) := q_if_eq (jd_of jb_279 dX9_refusesPlan_17) (by decide)
theorem p279_20 (lv : jmL) (st : List jmV) (w : jmW) : rn 279 (20, lv, st, w) = rn 279 (21, lv, .inl (0) :: st, w) := q_iconst (jd_of jb_279 dX9_refusesPlan_20)
theorem p279_21 (lv : jmL) (st : List jmV) (w : jmW) : rn 279 (21, lv, st, w) = rn 279 (25, lv, st, w) := q_goto (jd_of jb_279 dX9_refusesPlan_21) (by decide)
theorem p279_24 (lv : jmL) (st : List jmV) (w : jmW) : rn 279 (24, lv, st, w) = rn 279 (25, lv, .inl (2) :: st, w) := q_iconst (jd_of jb_279 dX9_refusesPlan_24)
theorem p279_25 (lv : jmL) (w : jmW) (x : Int) : rn 279 (25, lv, [.inl x], w) = some (some (.inl x), w) := q_ireturn (jd_of jb_279 dX9_refusesPlan_25) jr_279
theorem p280_0 (lv : jmL) (st : List jmV) (w : jmW) : rn 280 (0, lv, st, w) = jq_lda 280 1 lv st w (jg lv 0) := q_aload_n (jd_of jb_280 dX9_plans_0) rfl
theorem p280_1 (lv : jmL) (st : List jmV) (w : jmW) : rn 280 (1, lv, st, w) = rn 280 (2, lv, .inl (-1) :: st, w) := q_iconst (jd_of jb_280 dX9_plans_1)
theorem p280_2 (lv : jmL) (st : List jmV) (w : jmW) (a : Nat) (x : Int) : rn 280 (2, lv, .inl x :: jvr a :: st, w) = jq_gs (mS w a) (1, 9, 0) 280 5 lv (st) (setI w a 39 x) := q_putf (jd_of jb_280 dX9_plans_2) jo_280 jk_9_551 (Or.inl rfl) rfl
theorem p280_5 (lv : jmL) (st : List jmV) (w : jmW) : rn 280 (5, lv, st, w) = rn 280 (6, lv, .inl (0) :: st, w) := q_iconst (jd_of jb_280 dX9_plans_5)
theorem p280_6 (lv : jmL) (st : List jmV) (w : jmW) (x : Int) : rn 280 (6, lv, .inl x :: st, w) = rn 280 (7, js lv 2 (.inl x), st, w) := q_istore_n (jd_of jb_280 dX9_plans_6) rfl (by rw [jm_280]; decide)
theorem p280_7 (lv : jmL) (st : List jmV) (w : jmW) : rn 280 (7, lv, st, w) = jq_ldi 280 8 lv st w (jg lv 2) := q_iload_n (jd_of jb_280 dX9_plans_7) rfl
theorem p280_8 (lv : jmL) (st : List jmV) (w : jmW) : rn 280 (8, lv, st, w) = rn 280 (9, lv, .inl (1) :: st, w) := q_iconst (jd_of jb_280 dX9_plans_8)
theorem p280_9 (lv : jmL) (st : List jmV) (w : jmW) : rn 280 (9, lv, st, w) = rn 280 (10, lv, .inl (2) :: st, w) := q_iconst (jd_of jb_280 dX9_plans_9)
theorem p280_10 (lv : jmL) (st : List jmV) (w : jmW) : rn 280 (10, lv, st, w) = jq_ldi 280 11 lv st w (jg lv 1) := q_iload_n (jd_of jb_280 dX9_plans_10) rfl
theorem p280_11 (lv : jmL) (st : List jmV) (w : jmW) (x y : Int) : rn 280 (11, lv, .inl y :: .inl x :: st, w) = rn 280 (12, lv, .inl (x * y) :: st, w) := q_imul (jd_of jb_280 dX9_plans_11)
theorem p280_12 (lv : jmL) (st : List jmV) (w : jmW) (x y : Int) : rn 280 (12, lv, .inl y :: .inl x :: st, w) = rn 280 (13, lv, .inl (ji_shl x y) :: st, w) := q_ishl (jd_of jb_280 dX9_plans_12)
theorem p280_13 (lv : jmL) (st : List jmV) (w : jmW) (x y : Int) : rn 280 (13, lv, .inl y :: .inl x :: st, w) = if jw x < jw y then rn 280 (16, lv, st, w) else rn 280 (140, lv, st, w) := q_icmp_ge (jd_of jb_280 dX9_plans_13) (by decide)
theorem p280_16 (lv : jmL) (st : List jmV) (w : jmW) : rn 280 (16, lv, st, w) = jq_lda 280 17 lv st w (jg lv 0) := q_aload_n (jd_of jb_280 dX9_plans_16) rfl
theorem p280_17 (lv : jmL) (st : List jmV) (w : jmW) (b : Nat) : rn 280 (17, lv, jvr b :: st, w) = jq_s (mS w b) (1, 9, 0) (jq_b (decide (jwd st ≤ 8)) (jq_c 280 20 lv st (rn 236 (0, [(0, jvr b)], [], w)))) := q_callv (as := []) (rest := st) (jd_of jb_280 dX9_plans_17) jo_280 jk_9_498 rfl rfl rfl jo_236 jf_280_236 (Nat.le_of_ble_eq_true rfl)
theorem p280_20 (lv : jmL) (st : List jmV) (w : jmW) : rn 280 (20, lv, st, w) = jq_lda 280 21 lv st w (jg lv 0) := q_aload_n (jd_of jb_280 dX9_plans_20) rfl
theorem p280_21 (lv : jmL) (st : List jmV) (w : jmW) (b : Nat) : rn 280 (21, lv, jvr b :: st, w) = jq_s (mS w b) (1, 9, 0) (jq_b (decide (jwd st ≤ 8)) (jq_c 280 24 lv st (rn 237 (0, [(0, jvr b)], [], w)))) := q_callv (as := []) (rest := st) (jd_of jb_280 dX9_plans_21) jo_280 jk_9_501 rfl rfl rfl jo_237 jf_280_237 (Nat.le_of_ble_eq_true rfl)
theorem p280_24 (lv : jmL) (st : List jmV) (w : jmW) : rn 280 (24, lv, st, w) = jq_lda 280 25 lv st w (jg lv 0) := q_aload_n (jd_of jb_280 dX9_plans_24) rfl
theorem p280_25 (lv : jmL) (st : List jmV) (w : jmW) (a : Nat) : rn 280 (25, lv, jvr a :: st, w) = jq_gs (mS w a) (1, 9, 0) 280 28 lv (.inr (.inr (mR w a 19)) :: st) (w) := q_getf (v := fun w a => .inr (.inr (mR w a 19))) (jd_of jb_280 dX9_plans_25) jo_280 jk_9_24 (fun _ _ => rfl)
theorem p280_28 (lv : jmL) (st : List jmV) (w : jmW) : rn 280 (28, lv, st, w) = rn 280 (31, lv, .inl (291) :: st, w) := q_sipush (jd_of jb_280 dX9_plans_28) (by decide +kernel)
theorem p280_31 (lv : jmL) (st : List jmV) (w : jmW) : rn 280 (31, lv, st, w) = rn 280 (32, lv, .inl (5) :: st, w) := q_iconst (jd_of jb_280 dX9_plans_31)
theorem p280_32 (lv : jmL) (st : List jmV) (w : jmW) (a : Nat) (j x : Int) : rn 280 (32, lv, .inl x :: .inl j :: jvr a :: st, w) = jq_gw (mS w a) 0 j 280 33 lv (st) (setI w a (jix j) x) := q_iast (jd_of jb_280 dX9_plans_32)
theorem p280_33 (lv : jmL) (st : List jmV) (w : jmW) : rn 280 (33, lv, st, w) = jq_lda 280 34 lv st w (jg lv 0) := q_aload_n (jd_of jb_280 dX9_plans_33) rfl
theorem p280_34 (lv : jmL) (st : List jmV) (w : jmW) (a : Nat) : rn 280 (34, lv, jvr a :: st, w) = jq_gs (mS w a) (1, 9, 0) 280 37 lv (.inr (.inr (mR w a 19)) :: st) (w) := q_getf (v := fun w a => .inr (.inr (mR w a 19))) (jd_of jb_280 dX9_plans_34) jo_280 jk_9_24 (fun _ _ => rfl)
theorem p280_37 (lv : jmL) (st : List jmV) (w : jmW) : rn 280 (37, lv, st, w) = rn 280 (40, lv, .inl (293) :: st, w) := q_sipush (jd_of jb_280 dX9_plans_37) (by decide +kernel)
theorem p280_40 (lv : jmL) (st : List jmV) (w : jmW) : rn 280 (40, lv, st, w) = rn 280 (41, lv, .inl (0) :: st, w) := q_iconst (jd_of jb_280 dX9_plans_40)
theorem p280_41 (lv : jmL) (st : List jmV) (w : jmW) (a : Nat) (j x : Int) : rn 280 (41, lv, .inl x :: .inl j :: jvr a :: st, w) = jq_gw (mS w a) 0 j 280 42 lv (st) (setI w a (jix j) x) := q_iast (jd_of jb_280 dX9_plans_41)
theorem p280_42 (lv : jmL) (st : List jmV) (w : jmW) : rn 280 (42, lv, st, w) = jq_lda 280 43 lv st w (jg lv 0) := q_aload_n (jd_of jb_280 dX9_plans_42) rfl
theorem p280_43 (lv : jmL) (st : List jmV) (w : jmW) : rn 280 (43, lv, st, w) = jq_ldi 280 44 lv st w (jg lv 1) := q_iload_n (jd_of jb_280 dX9_plans_43) rfl
theorem p280_44 (lv : jmL) (st : List jmV) (w : jmW) (a : Nat) (x : Int) : rn 280 (44, lv, .inl x :: jvr a :: st, w) = jq_gs (mS w a) (1, 9, 0) 280 47 lv (st) (setI w a 27 x) := q_putf (jd_of jb_280 dX9_plans_44) jo_280 jk_9_446 (Or.inl rfl) rfl
theorem p280_47 (lv : jmL) (st : List jmV) (w : jmW) : rn 280 (47, lv, st, w) = rn 280 (48, lv, .inl (0) :: st, w) := q_iconst (jd_of jb_280 dX9_plans_47)
theorem p280_48 (lv : jmL) (st : List jmV) (w : jmW) (x : Int) : rn 280 (48, lv, .inl x :: st, w) = rn 280 (49, js lv 3 (.inl x), st, w) := q_istore_n (jd_of jb_280 dX9_plans_48) rfl (by rw [jm_280]; decide)
theorem p280_49 (lv : jmL) (st : List jmV) (w : jmW) : rn 280 (49, lv, st, w) = jq_ldi 280 50 lv st w (jg lv 3) := q_iload_n (jd_of jb_280 dX9_plans_49) rfl
theorem p280_50 (lv : jmL) (st : List jmV) (w : jmW) : rn 280 (50, lv, st, w) = jq_ldi 280 51 lv st w (jg lv 1) := q_iload_n (jd_of jb_280 dX9_plans_50) rfl
theorem p280_51 (lv : jmL) (st : List jmV) (w : jmW) (x y : Int) : rn 280 (51, lv, .inl y :: .inl x :: st, w) = if jw x < jw y then rn 280 (54, lv, st, w) else rn 280 (77, lv, st, w) := q_icmp_ge (jd_of jb_280 dX9_plans_51) (by decide)
theorem p280_54 (lv : jmL) (st : List jmV) (w : jmW) : rn 280 (54, lv, st, w) = jq_lda 280 55 lv st w (jg lv 0) := q_aload_n (jd_of jb_280 dX9_plans_54) rfl
theorem p280_55 (lv : jmL) (st : List jmV) (w : jmW) (a : Nat) : rn 280 (55, lv, jvr a :: st, w) = jq_gs (mS w a) (1, 9, 0) 280 58 lv (.inr (.inr (mR w a 28)) :: st) (w) := q_getf (v := fun w a => .inr (.inr (mR w a 28))) (jd_of jb_280 dX9_plans_55) jo_280 jk_9_39 (fun _ _ => rfl)
theorem p280_58 (lv : jmL) (st : List jmV) (w : jmW) : rn 280 (58, lv, st, w) = jq_ldi 280 59 lv st w (jg lv 3) := q_iload_n (jd_of jb_280 dX9_plans_58) rfl
theorem p280_59 (lv : jmL) (st : List jmV) (w : jmW) : rn 280 (59, lv, st, w) = jq_ldi 280 60 lv st w (jg lv 2) := q_iload_n (jd_of jb_280 dX9_plans_59) rfl
theorem p280_60 (lv : jmL) (st : List jmV) (w : jmW) : rn 280 (60, lv, st, w) = rn 280 (61, lv, .inl (2) :: st, w) := q_iconst (jd_of jb_280 dX9_plans_60)
theorem p280_61 (lv : jmL) (st : List jmV) (w : jmW) : rn 280 (61, lv, st, w) = jq_ldi 280 62 lv st w (jg lv 1) := q_iload_n (jd_of jb_280 dX9_plans_61) rfl
theorem p280_62 (lv : jmL) (st : List jmV) (w : jmW) : rn 280 (62, lv, st, w) = rn 280 (63, lv, .inl (1) :: st, w) := q_iconst (jd_of jb_280 dX9_plans_62)
theorem p280_63 (lv : jmL) (st : List jmV) (w : jmW) (x y : Int) : rn 280 (63, lv, .inl y :: .inl x :: st, w) = rn 280 (64, lv, .inl (x - y) :: st, w) := q_isub (jd_of jb_280 dX9_plans_63)
theorem p280_64 (lv : jmL) (st : List jmV) (w : jmW) : rn 280 (64, lv, st, w) = jq_ldi 280 65 lv st w (jg lv 3) := q_iload_n (jd_of jb_280 dX9_plans_64) rfl
theorem p280_65 (lv : jmL) (st : List jmV) (w : jmW) (x y : Int) : rn 280 (65, lv, .inl y :: .inl x :: st, w) = rn 280 (66, lv, .inl (x - y) :: st, w) := q_isub (jd_of jb_280 dX9_plans_65)
theorem p280_66 (lv : jmL) (st : List jmV) (w : jmW) (x y : Int) : rn 280 (66, lv, .inl y :: .inl x :: st, w) = rn 280 (67, lv, .inl (x * y) :: st, w) := q_imul (jd_of jb_280 dX9_plans_66)
theorem p280_67 (lv : jmL) (st : List jmV) (w : jmW) (x y : Int) : rn 280 (67, lv, .inl y :: .inl x :: st, w) = rn 280 (68, lv, .inl (ji_shr x y) :: st, w) := q_ishr (jd_of jb_280 dX9_plans_67)
theorem p280_68 (lv : jmL) (st : List jmV) (w : jmW) : rn 280 (68, lv, st, w) = rn 280 (69, lv, .inl (3) :: st, w) := q_iconst (jd_of jb_280 dX9_plans_68)
theorem p280_69 (lv : jmL) (st : List jmV) (w : jmW) (x y : Int) : rn 280 (69, lv, .inl y :: .inl x :: st, w) = rn 280 (70, lv, .inl (ji_and x y) :: st, w) := q_iand (jd_of jb_280 dX9_plans_69)
theorem p280_70 (lv : jmL) (st : List jmV) (w : jmW) (a : Nat) (j x : Int) : rn 280 (70, lv, .inl x :: .inl j :: jvr a :: st, w) = jq_gw (mS w a) 0 j 280 71 lv (st) (setI w a (jix j) x) := q_iast (jd_of jb_280 dX9_plans_70)
theorem p280_71 (lv : jmL) (st : List jmV) (w : jmW) : rn 280 (71, lv, st, w) = jq_inc 280 74 lv 3 (1) st w (jg lv 3) := q_iinc (jd_of jb_280 dX9_plans_71) (by rw [jm_280]; decide)
theorem p280_74 (lv : jmL) (st : List jmV) (w : jmW) : rn 280 (74, lv, st, w) = rn 280 (49, lv, st, w) := q_goto (jd_of jb_280 dX9_plans_74) (by decide)
theorem p280_77 (lv : jmL) (st : List jmV) (w : jmW) : rn 280 (77, lv, st, w) = rn 280 (78, lv, .inl (0) :: st, w) := q_iconst (jd_of jb_280 dX9_plans_77)
theorem p280_78 (lv : jmL) (st : List jmV) (w : jmW) (x : Int) : rn 280 (78, lv, .inl x :: st, w) = rn 280 (79, js lv 3 (.inl x), st, w) := q_istore_n (jd_of jb_280 dX9_plans_78) rfl (by rw [jm_280]; decide)
theorem p280_79 (lv : jmL) (st : List jmV) (w : jmW) : rn 280 (79, lv, st, w) = jq_ldi 280 80 lv st w (jg lv 3) := q_iload_n (jd_of jb_280 dX9_plans_79) rfl
theorem p280_80 (lv : jmL) (st : List jmV) (w : jmW) : rn 280 (80, lv, st, w) = jq_ldi 280 81 lv st w (jg lv 1) := q_iload_n (jd_of jb_280 dX9_plans_80) rfl
theorem p280_81 (lv : jmL) (st : List jmV) (w : jmW) (x y : Int) : rn 280 (81, lv, .inl y :: .inl x :: st, w) = if jw x < jw y then rn 280 (84, lv, st, w) else rn 280 (99, lv, st, w) := q_icmp_ge (jd_of jb_280 dX9_plans_81) (by decide)
theorem p280_84 (lv : jmL) (st : List jmV) (w : jmW) : rn 280 (84, lv, st, w) = jq_lda 280 85 lv st w (jg lv 0) := q_aload_n (jd_of jb_280 dX9_plans_84) rfl
theorem p280_85 (lv : jmL) (st : List jmV) (w : jmW) : rn 280 (85, lv, st, w) = jq_lda 280 86 lv st w (jg lv 0) := q_aload_n (jd_of jb_280 dX9_plans_85) rfl
theorem p280_86 (lv : jmL) (st : List jmV) (w : jmW) (a : Nat) : rn 280 (86, lv, jvr a :: st, w) = jq_gs (mS w a) (1, 9, 0) 280 89 lv (.inr (.inr (mR w a 19)) :: st) (w) := q_getf (v := fun w a => .inr (.inr (mR w a 19))) (jd_of jb_280 dX9_plans_86) jo_280 jk_9_24 (fun _ _ => rfl)
theorem p280_89 (lv : jmL) (st : List jmV) (w : jmW) : rn 280 (89, lv, st, w) = rn 280 (90, lv, .inl (0) :: st, w) := q_iconst (jd_of jb_280 dX9_plans_89)
theorem p280_90 (lv : jmL) (st : List jmV) (w : jmW) (b : Nat) (x1 : Option Nat) (x2 : Int) : rn 280 (90, lv, .inl x2 :: .inr (.inr x1) :: jvr b :: st, w) = jq_s (mS w b) (1, 9, 0) (jq_b (decide (jwd st ≤ 8)) (jq_c 280 93 lv st (rn 238 (0, [(0, jvr b), (1, .inr (.inr x1)), (2, .inl x2)], [], w)))) := q_callv (as := [.inr (.inr x1), .inl x2]) (rest := st) (jd_of jb_280 dX9_plans_90) jo_280 jk_9_504 rfl rfl rfl jo_238 jf_280_238 (Nat.le_of_ble_eq_true rfl)
theorem p280_93 (lv : jmL) (st : List jmV) (w : jmW) : rn 280 (93, lv, st, w) = jq_inc 280 96 lv 3 (1) st w (jg lv 3) := q_iinc (jd_of jb_280 dX9_plans_93) (by rw [jm_280]; decide)
theorem p280_96 (lv : jmL) (st : List jmV) (w : jmW) : rn 280 (96, lv, st, w) = rn 280 (79, lv, st, w) := q_goto (jd_of jb_280 dX9_plans_96) (by decide)
theorem p280_99 (lv : jmL) (st : List jmV) (w : jmW) : rn 280 (99, lv, st, w) = jq_lda 280 100 lv st w (jg lv 0) := q_aload_n (jd_of jb_280 dX9_plans_99) rfl
theorem p280_100 (lv : jmL) (st : List jmV) (w : jmW) (a : Nat) : rn 280 (100, lv, jvr a :: st, w) = jq_gs (mS w a) (1, 9, 0) 280 103 lv (.inr (.inr (mR w a 19)) :: st) (w) := q_getf (v := fun w a => .inr (.inr (mR w a 19))) (jd_of jb_280 dX9_plans_100) jo_280 jk_9_24 (fun _ _ => rfl)
theorem p280_103 (lv : jmL) (st : List jmV) (w : jmW) : rn 280 (103, lv, st, w) = rn 280 (106, lv, .inl (289) :: st, w) := q_sipush (jd_of jb_280 dX9_plans_103) (by decide +kernel)
theorem p280_106 (lv : jmL) (st : List jmV) (w : jmW) (a : Nat) (j : Int) : rn 280 (106, lv, .inl j :: jvr a :: st, w) = jq_gr (mS w a) 0 j 280 107 lv (.inl (mI w a (jix j)) :: st) (w) := q_iald (jd_of jb_280 dX9_plans_106)
theorem p280_107 (lv : jmL) (st : List jmV) (w : jmW) : rn 280 (107, lv, st, w) = jq_lda 280 108 lv st w (jg lv 0) := q_aload_n (jd_of jb_280 dX9_plans_107) rfl
theorem p280_108 (lv : jmL) (st : List jmV) (w : jmW) (a : Nat) : rn 280 (108, lv, jvr a :: st, w) = jq_gs (mS w a) (1, 9, 0) 280 111 lv (.inl (mI w a 39) :: st) (w) := q_getf (v := fun w a => .inl (mI w a 39)) (jd_of jb_280 dX9_plans_108) jo_280 jk_9_551 (fun _ _ => rfl)
theorem p280_111 (lv : jmL) (st : List jmV) (w : jmW) (x y : Int) : rn 280 (111, lv, .inl y :: .inl x :: st, w) = if jw y < jw x then rn 280 (117, lv, st, w) else rn 280 (114, lv, st, w) := q_icmp_gt (jd_of jb_280 dX9_plans_111) (by decide)
theorem p280_114 (lv : jmL) (st : List jmV) (w : jmW) : rn 280 (114, lv, st, w) = rn 280 (134, lv, st, w) := q_goto (jd_of jb_280 dX9_plans_114) (by decide)
theorem p280_117 (lv : jmL) (st : List jmV) (w : jmW) : rn 280 (117, lv, st, w) = jq_lda 280 118 lv st w (jg lv 0) := q_aload_n (jd_of jb_280 dX9_plans_117) rfl
theorem p280_118 (lv : jmL) (st : List jmV) (w : jmW) : rn 280 (118, lv, st, w) = jq_lda 280 119 lv st w (jg lv 0) := q_aload_n (jd_of jb_280 dX9_plans_118) rfl
theorem p280_119 (lv : jmL) (st : List jmV) (w : jmW) (a : Nat) : rn 280 (119, lv, jvr a :: st, w) = jq_gs (mS w a) (1, 9, 0) 280 122 lv (.inr (.inr (mR w a 19)) :: st) (w) := q_getf (v := fun w a => .inr (.inr (mR w a 19))) (jd_of jb_280 dX9_plans_119) jo_280 jk_9_24 (fun _ _ => rfl)
theorem p280_122 (lv : jmL) (st : List jmV) (w : jmW) : rn 280 (122, lv, st, w) = rn 280 (125, lv, .inl (289) :: st, w) := q_sipush (jd_of jb_280 dX9_plans_122) (by decide +kernel)
theorem p280_125 (lv : jmL) (st : List jmV) (w : jmW) (a : Nat) (j : Int) : rn 280 (125, lv, .inl j :: jvr a :: st, w) = jq_gr (mS w a) 0 j 280 126 lv (.inl (mI w a (jix j)) :: st) (w) := q_iald (jd_of jb_280 dX9_plans_125)
theorem p280_126 (lv : jmL) (st : List jmV) (w : jmW) (a : Nat) (x : Int) : rn 280 (126, lv, .inl x :: jvr a :: st, w) = jq_gs (mS w a) (1, 9, 0) 280 129 lv (st) (setI w a 39 x) := q_putf (jd_of jb_280 dX9_plans_126) jo_280 jk_9_551 (Or.inl rfl) rfl
theorem p280_129 (lv : jmL) (st : List jmV) (w : jmW) : rn 280 (129, lv, st, w) = jq_lda 280 130 lv st w (jg lv 0) := q_aload_n (jd_of jb_280 dX9_plans_129) rfl
theorem p280_130 (lv : jmL) (st : List jmV) (w : jmW) : rn 280 (130, lv, st, w) = jq_ldi 280 131 lv st w (jg lv 2) := q_iload_n (jd_of jb_280 dX9_plans_130) rfl
theorem p280_131 (lv : jmL) (st : List jmV) (w : jmW) (a : Nat) (x : Int) : rn 280 (131, lv, .inl x :: jvr a :: st, w) = jq_gs (mS w a) (1, 9, 0) 280 134 lv (st) (setI w a 38 x) := q_putf (jd_of jb_280 dX9_plans_131) jo_280 jk_9_554 (Or.inl rfl) rfl
theorem p280_134 (lv : jmL) (st : List jmV) (w : jmW) : rn 280 (134, lv, st, w) = jq_inc 280 137 lv 2 (1) st w (jg lv 2) := q_iinc (jd_of jb_280 dX9_plans_134) (by rw [jm_280]; decide)
theorem p280_137 (lv : jmL) (st : List jmV) (w : jmW) : rn 280 (137, lv, st, w) = rn 280 (7, lv, st, w) := q_goto (jd_of jb_280 dX9_plans_137) (by decide)
theorem p280_140 (lv : jmL) (w : jmW) : rn 280 (140, lv, [], w) = some (none, w) := q_return (jd_of jb_280 dX9_plans_140) jr_280
theorem p281_0 (lv : jmL) (st : List jmV) (w : jmW) : rn 281 (0, lv, st, w) = jq_lda 281 1 lv st w (jg lv 0) := q_aload_n (jd_of jb_281 dX9_planAt_0) rfl
theorem p281_1 (lv : jmL) (st : List jmV) (w : jmW) : rn 281 (1, lv, st, w) = rn 281 (2, lv, .inl (0) :: st, w) := q_iconst (jd_of jb_281 dX9_planAt_1)
theorem p281_2 (lv : jmL) (st : List jmV) (w : jmW) (a : Nat) (x : Int) : rn 281 (2, lv, .inl x :: jvr a :: st, w) = jq_gs (mS w a) (1, 9, 0) 281 5 lv (st) (setI w a 0 x) := q_putf (jd_of jb_281 dX9_planAt_2) jo_281 jk_9_54 (Or.inl rfl) rfl
theorem p281_5 (lv : jmL) (st : List jmV) (w : jmW) : rn 281 (5, lv, st, w) = jq_lda 281 6 lv st w (jg lv 0) := q_aload_n (jd_of jb_281 dX9_planAt_5) rfl
theorem p281_6 (lv : jmL) (st : List jmV) (w : jmW) : rn 281 (6, lv, st, w) = jq_ldi 281 7 lv st w (jg lv 1) := q_iload_n (jd_of jb_281 dX9_planAt_6) rfl
theorem p281_7 (lv : jmL) (st : List jmV) (w : jmW) (b : Nat) (x1 : Int) : rn 281 (7, lv, .inl x1 :: jvr b :: st, w) = jq_s (mS w b) (1, 9, 0) (jq_b (decide (jwd st ≤ 8)) (jq_c 281 10 lv st (rn 279 (0, [(0, jvr b), (1, .inl x1)], [], w)))) := q_callv (as := [.inl x1]) (rest := st) (jd_of jb_281 dX9_planAt_7) jo_281 jk_9_557 rfl rfl rfl jo_279 jf_281_279 (Nat.le_of_ble_eq_true rfl)
theorem p281_10 (lv : jmL) (st : List jmV) (w : jmW) (x : Int) : rn 281 (10, lv, .inl x :: st, w) = rn 281 (11, js lv 3 (.inl x), st, w) := q_istore_n (jd_of jb_281 dX9_planAt_10) rfl (by rw [jm_281]; decide)
theorem p281_11 (lv : jmL) (st : List jmV) (w : jmW) : rn 281 (11, lv, st, w) = jq_ldi 281 12 lv st w (jg lv 3) := q_iload_n (jd_of jb_281 dX9_planAt_11) rfl
theorem p281_12 (lv : jmL) (st : List jmV) (w : jmW) (x : Int) : rn 281 (12, lv, .inl x :: st, w) = if 0 < jw x then rn 281 (15, lv, st, w) else rn 281 (21, lv, st, w) := q_if_le (jd_of jb_281 dX9_planAt_12) (by decide)
theorem p281_15 (lv : jmL) (st : List jmV) (w : jmW) : rn 281 (15, lv, st, w) = jq_lda 281 16 lv st w (jg lv 0) := q_aload_n (jd_of jb_281 dX9_planAt_15) rfl
theorem p281_16 (lv : jmL) (st : List jmV) (w : jmW) : rn 281 (16, lv, st, w) = jq_ldi 281 17 lv st w (jg lv 3) := q_iload_n (jd_of jb_281 dX9_planAt_16) rfl
theorem p281_17 (lv : jmL) (st : List jmV) (w : jmW) (b : Nat) (x1 : Int) : rn 281 (17, lv, .inl x1 :: jvr b :: st, w) = jq_s (mS w b) (1, 9, 0) (jq_b (decide (jwd st ≤ 8)) (jq_c 281 20 lv st (rn 176 (0, [(0, jvr b), (1, .inl x1)], [], w)))) := q_callv (as := [.inl x1]) (rest := st) (jd_of jb_281 dX9_planAt_17) jo_281 jk_9_60 rfl rfl rfl jo_176 jf_281_176 (Nat.le_of_ble_eq_true rfl)
theorem p281_20 (lv : jmL) (w : jmW) (x : Int) : rn 281 (20, lv, [.inl x], w) = some (some (.inl x), w) := q_ireturn (jd_of jb_281 dX9_planAt_20) jr_281
theorem p281_21 (lv : jmL) (st : List jmV) (w : jmW) : rn 281 (21, lv, st, w) = jq_ldi 281 22 lv st w (jg lv 2) := q_iload_n (jd_of jb_281 dX9_planAt_21) rfl
theorem p281_22 (lv : jmL) (st : List jmV) (w : jmW) (x : Int) : rn 281 (22, lv, .inl x :: st, w) = if jw x < 0 then rn 281 (30, lv, st, w) else rn 281 (25, lv, st, w) := q_if_lt (jd_of jb_281 dX9_planAt_22) (by decide)
theorem p281_25 (lv : jmL) (st : List jmV) (w : jmW) : rn 281 (25, lv, st, w) = jq_ldi 281 26 lv st w (jg lv 2) := q_iload_n (jd_of jb_281 dX9_planAt_25) rfl
theorem p281_26 (lv : jmL) (st : List jmV) (w : jmW) : rn 281 (26, lv, st, w) = jq_ldi 281 27 lv st w (jg lv 1) := q_iload_n (jd_of jb_281 dX9_planAt_26) rfl
theorem p281_27 (lv : jmL) (st : List jmV) (w : jmW) (x y : Int) : rn 281 (27, lv, .inl y :: .inl x :: st, w) = if jw x < jw y then rn 281 (36, lv, st, w) else rn 281 (30, lv, st, w) := q_icmp_lt (jd_of jb_281 dX9_planAt_27) (by decide)
theorem p281_30 (lv : jmL) (st : List jmV) (w : jmW) : rn 281 (30, lv, st, w) = jq_lda 281 31 lv st w (jg lv 0) := q_aload_n (jd_of jb_281 dX9_planAt_30) rfl
theorem p281_31 (lv : jmL) (st : List jmV) (w : jmW) : rn 281 (31, lv, st, w) = rn 281 (32, lv, .inl (1) :: st, w) := q_iconst (jd_of jb_281 dX9_planAt_31)
theorem p281_32 (lv : jmL) (st : List jmV) (w : jmW) (b : Nat) (x1 : Int) : rn 281 (32, lv, .inl x1 :: jvr b :: st, w) = jq_s (mS w b) (1, 9, 0) (jq_b (decide (jwd st ≤ 8)) (jq_c 281 35 lv st (rn 176 (0, [(0, jvr b), (1, .inl x1)], [], w)))) := q_callv (as := [.inl x1]) (rest := st) (jd_of jb_281 dX9_planAt_32) jo_281 jk_9_60 rfl rfl rfl jo_176 jf_281_176 (Nat.le_of_ble_eq_true rfl)
theorem p281_35 (lv : jmL) (w : jmW) (x : Int) : rn 281 (35, lv, [.inl x], w) = some (some (.inl x), w) := q_ireturn (jd_of jb_281 dX9_planAt_35) jr_281
theorem p281_36 (lv : jmL) (st : List jmV) (w : jmW) : rn 281 (36, lv, st, w) = jq_lda 281 37 lv st w (jg lv 0) := q_aload_n (jd_of jb_281 dX9_planAt_36) rfl
theorem p281_37 (lv : jmL) (st : List jmV) (w : jmW) : rn 281 (37, lv, st, w) = jq_ldi 281 38 lv st w (jg lv 1) := q_iload_n (jd_of jb_281 dX9_planAt_37) rfl
theorem p281_38 (lv : jmL) (st : List jmV) (w : jmW) (b : Nat) (x1 : Int) : rn 281 (38, lv, .inl x1 :: jvr b :: st, w) = jq_s (mS w b) (1, 9, 0) (jq_b (decide (jwd st ≤ 8)) (jq_c 281 41 lv st (rn 280 (0, [(0, jvr b), (1, .inl x1)], [], w)))) := q_callv (as := [.inl x1]) (rest := st) (jd_of jb_281 dX9_planAt_38) jo_281 jk_9_560 rfl rfl rfl jo_280 jf_281_280 (Nat.le_of_ble_eq_true rfl)
theorem p281_41 (lv : jmL) (st : List jmV) (w : jmW) : rn 281 (41, lv, st, w) = jq_lda 281 42 lv st w (jg lv 0) := q_aload_n (jd_of jb_281 dX9_planAt_41) rfl
theorem p281_42 (lv : jmL) (st : List jmV) (w : jmW) : rn 281 (42, lv, st, w) = jq_lda 281 43 lv st w (jg lv 0) := q_aload_n (jd_of jb_281 dX9_planAt_42) rfl
theorem p281_43 (lv : jmL) (st : List jmV) (w : jmW) (a : Nat) : rn 281 (43, lv, jvr a :: st, w) = jq_gs (mS w a) (1, 9, 0) 281 46 lv (.inl (mI w a 38) :: st) (w) := q_getf (v := fun w a => .inl (mI w a 38)) (jd_of jb_281 dX9_planAt_43) jo_281 jk_9_554 (fun _ _ => rfl)
theorem p281_46 (lv : jmL) (st : List jmV) (w : jmW) : rn 281 (46, lv, st, w) = rn 281 (47, lv, .inl (2) :: st, w) := q_iconst (jd_of jb_281 dX9_planAt_46)
theorem p281_47 (lv : jmL) (st : List jmV) (w : jmW) : rn 281 (47, lv, st, w) = jq_ldi 281 48 lv st w (jg lv 1) := q_iload_n (jd_of jb_281 dX9_planAt_47) rfl
theorem p281_48 (lv : jmL) (st : List jmV) (w : jmW) : rn 281 (48, lv, st, w) = rn 281 (49, lv, .inl (1) :: st, w) := q_iconst (jd_of jb_281 dX9_planAt_48)
theorem p281_49 (lv : jmL) (st : List jmV) (w : jmW) (x y : Int) : rn 281 (49, lv, .inl y :: .inl x :: st, w) = rn 281 (50, lv, .inl (x - y) :: st, w) := q_isub (jd_of jb_281 dX9_planAt_49)
theorem p281_50 (lv : jmL) (st : List jmV) (w : jmW) : rn 281 (50, lv, st, w) = jq_ldi 281 51 lv st w (jg lv 2) := q_iload_n (jd_of jb_281 dX9_planAt_50) rfl
theorem p281_51 (lv : jmL) (st : List jmV) (w : jmW) (x y : Int) : rn 281 (51, lv, .inl y :: .inl x :: st, w) = rn 281 (52, lv, .inl (x - y) :: st, w) := q_isub (jd_of jb_281 dX9_planAt_51)
theorem p281_52 (lv : jmL) (st : List jmV) (w : jmW) (x y : Int) : rn 281 (52, lv, .inl y :: .inl x :: st, w) = rn 281 (53, lv, .inl (x * y) :: st, w) := q_imul (jd_of jb_281 dX9_planAt_52)
theorem p281_53 (lv : jmL) (st : List jmV) (w : jmW) (x y : Int) : rn 281 (53, lv, .inl y :: .inl x :: st, w) = rn 281 (54, lv, .inl (ji_shr x y) :: st, w) := q_ishr (jd_of jb_281 dX9_planAt_53)
theorem p281_54 (lv : jmL) (st : List jmV) (w : jmW) : rn 281 (54, lv, st, w) = rn 281 (55, lv, .inl (3) :: st, w) := q_iconst (jd_of jb_281 dX9_planAt_54)
theorem p281_55 (lv : jmL) (st : List jmV) (w : jmW) (x y : Int) : rn 281 (55, lv, .inl y :: .inl x :: st, w) = rn 281 (56, lv, .inl (ji_and x y) :: st, w) := q_iand (jd_of jb_281 dX9_planAt_55)
theorem p281_56 (lv : jmL) (st : List jmV) (w : jmW) (b : Nat) (x1 : Int) : rn 281 (56, lv, .inl x1 :: jvr b :: st, w) = jq_s (mS w b) (1, 9, 0) (jq_b (decide (jwd st ≤ 8)) (jq_c 281 59 lv st (rn 213 (0, [(0, jvr b), (1, .inl x1)], [], w)))) := q_callv (as := [.inl x1]) (rest := st) (jd_of jb_281 dX9_planAt_56) jo_281 jk_9_64 rfl rfl rfl jo_213 jf_281_213 (Nat.le_of_ble_eq_true rfl)
theorem p281_59 (lv : jmL) (w : jmW) (x : Int) : rn 281 (59, lv, [.inl x], w) = some (some (.inl x), w) := q_ireturn (jd_of jb_281 dX9_planAt_59) jr_281
theorem p282_0 (lv : jmL) (st : List jmV) (w : jmW) : rn 282 (0, lv, st, w) = jq_lda 282 1 lv st w (jg lv 0) := q_aload_n (jd_of jb_282 dX9_mean_0) rfl
theorem p282_1 (lv : jmL) (st : List jmV) (w : jmW) : rn 282 (1, lv, st, w) = rn 282 (2, lv, .inl (0) :: st, w) := q_iconst (jd_of jb_282 dX9_mean_1)
theorem p282_2 (lv : jmL) (st : List jmV) (w : jmW) (a : Nat) (x : Int) : rn 282 (2, lv, .inl x :: jvr a :: st, w) = jq_gs (mS w a) (1, 9, 0) 282 5 lv (st) (setI w a 0 x) := q_putf (jd_of jb_282 dX9_mean_2) jo_282 jk_9_54 (Or.inl rfl) rfl
theorem p282_5 (lv : jmL) (st : List jmV) (w : jmW) : rn 282 (5, lv, st, w) = jq_lda 282 6 lv st w (jg lv 0) := q_aload_n (jd_of jb_282 dX9_mean_5) rfl
theorem p282_6 (lv : jmL) (st : List jmV) (w : jmW) (a : Nat) : rn 282 (6, lv, jvr a :: st, w) = jq_gs (mS w a) (1, 9, 0) 282 9 lv (.inr (.inr (mR w a 3)) :: st) (w) := q_getf (v := fun w a => .inr (.inr (mR w a 3))) (jd_of jb_282 dX9_mean_6) jo_282 jk_9_389 (fun _ _ => rfl)
theorem p282_9n (lv : jmL) (st : List jmV) (w : jmW) : rn 282 (9, lv, .inr (.inr none) :: st, w) = rn 282 (12, lv, st, w) := q_ifnonnull_n (tgt := 18) (jd_of jb_282 dX9_mean_9) (by decide)
theorem p282_9s (lv : jmL) (st : List jmV) (w : jmW) (a : Nat) : rn 282 (9, lv, .inr (.inr (some a)) :: st, w) = rn 282 (18, lv, st, w) := q_ifnonnull_s (tgt := 18) (jd_of jb_282 dX9_mean_9) (by decide)
theorem p282_12 (lv : jmL) (st : List jmV) (w : jmW) : rn 282 (12, lv, st, w) = jq_lda 282 13 lv st w (jg lv 0) := q_aload_n (jd_of jb_282 dX9_mean_12) rfl
theorem p282_13 (lv : jmL) (st : List jmV) (w : jmW) : rn 282 (13, lv, st, w) = rn 282 (14, lv, .inl (1) :: st, w) := q_iconst (jd_of jb_282 dX9_mean_13)
theorem p282_14 (lv : jmL) (st : List jmV) (w : jmW) (b : Nat) (x1 : Int) : rn 282 (14, lv, .inl x1 :: jvr b :: st, w) = jq_s (mS w b) (1, 9, 0) (jq_b (decide (jwd st ≤ 8)) (jq_c 282 17 lv st (rn 176 (0, [(0, jvr b), (1, .inl x1)], [], w)))) := q_callv (as := [.inl x1]) (rest := st) (jd_of jb_282 dX9_mean_14) jo_282 jk_9_60 rfl rfl rfl jo_176 jf_282_176 (Nat.le_of_ble_eq_true rfl)
theorem p282_17 (lv : jmL) (w : jmW) (x : Int) : rn 282 (17, lv, [.inl x], w) = some (some (.inl x), w) := q_ireturn (jd_of jb_282 dX9_mean_17) jr_282
theorem p282_18 (lv : jmL) (st : List jmV) (w : jmW) : rn 282 (18, lv, st, w) = jq_ldi 282 19 lv st w (jg lv 1) := q_iload_n (jd_of jb_282 dX9_mean_18) rfl
theorem p282_19 (lv : jmL) (st : List jmV) (w : jmW) : rn 282 (19, lv, st, w) = rn 282 (20, lv, .inl (0) :: st, w) := q_iconst (jd_of jb_282 dX9_mean_19)
theorem p282_20 (lv : jmL) (st : List jmV) (w : jmW) : rn 282 (20, lv, st, w) = rn 282 (23, lv, .inl (65536) :: st, w) := q_ldcw_i (jd_of jb_282 dX9_mean_20) jo_282 jk_9_563
theorem p282_23 (lv : jmL) (st : List jmV) (w : jmW) (x1 : Int) (x2 : Int) (x3 : Int) : rn 282 (23, lv, .inl x3 :: .inl x2 :: .inl x1 :: st, w) = jq_b (decide (jwd st ≤ 8)) (jq_c 282 26 lv st (rn 192 (0, [(0, .inl x1), (1, .inl x2), (2, .inl x3)], [], w))) := q_calls (as := [.inl x1, .inl x2, .inl x3]) (rest := st) (jd_of jb_282 dX9_mean_23) jo_282 jk_9_135 rfl rfl rfl jf_282_192 (Nat.le_of_ble_eq_true rfl)
theorem p282_26 (lv : jmL) (st : List jmV) (w : jmW) (x : Int) : rn 282 (26, lv, .inl x :: st, w) = if jw x = 0 then rn 282 (49, lv, st, w) else rn 282 (29, lv, st, w) := q_if_eq (jd_of jb_282 dX9_mean_26) (by decide)
theorem p282_29 (lv : jmL) (st : List jmV) (w : jmW) : rn 282 (29, lv, st, w) = jq_ldi 282 30 lv st w (jg lv 2) := q_iload_n (jd_of jb_282 dX9_mean_29) rfl
theorem p282_30 (lv : jmL) (st : List jmV) (w : jmW) : rn 282 (30, lv, st, w) = rn 282 (31, lv, .inl (1) :: st, w) := q_iconst (jd_of jb_282 dX9_mean_30)
theorem p282_31 (lv : jmL) (st : List jmV) (w : jmW) : rn 282 (31, lv, st, w) = rn 282 (33, lv, .inl (20) :: st, w) := q_bipush (jd_of jb_282 dX9_mean_31) (by decide +kernel)
theorem p282_33 (lv : jmL) (st : List jmV) (w : jmW) (x1 : Int) (x2 : Int) (x3 : Int) : rn 282 (33, lv, .inl x3 :: .inl x2 :: .inl x1 :: st, w) = jq_b (decide (jwd st ≤ 8)) (jq_c 282 36 lv st (rn 192 (0, [(0, .inl x1), (1, .inl x2), (2, .inl x3)], [], w))) := q_calls (as := [.inl x1, .inl x2, .inl x3]) (rest := st) (jd_of jb_282 dX9_mean_33) jo_282 jk_9_135 rfl rfl rfl jf_282_192 (Nat.le_of_ble_eq_true rfl)
theorem p282_36 (lv : jmL) (st : List jmV) (w : jmW) (x : Int) : rn 282 (36, lv, .inl x :: st, w) = if jw x = 0 then rn 282 (49, lv, st, w) else rn 282 (39, lv, st, w) := q_if_eq (jd_of jb_282 dX9_mean_36) (by decide)
theorem p282_39 (lv : jmL) (st : List jmV) (w : jmW) : rn 282 (39, lv, st, w) = jq_ldi 282 40 lv st w (jg lv 3) := q_iload_n (jd_of jb_282 dX9_mean_39) rfl
theorem p282_40 (lv : jmL) (st : List jmV) (w : jmW) : rn 282 (40, lv, st, w) = rn 282 (41, lv, .inl (0) :: st, w) := q_iconst (jd_of jb_282 dX9_mean_40)
theorem p282_41 (lv : jmL) (st : List jmV) (w : jmW) : rn 282 (41, lv, st, w) = rn 282 (43, lv, .inl (40) :: st, w) := q_bipush (jd_of jb_282 dX9_mean_41) (by decide +kernel)
theorem p282_43 (lv : jmL) (st : List jmV) (w : jmW) (x1 : Int) (x2 : Int) (x3 : Int) : rn 282 (43, lv, .inl x3 :: .inl x2 :: .inl x1 :: st, w) = jq_b (decide (jwd st ≤ 8)) (jq_c 282 46 lv st (rn 192 (0, [(0, .inl x1), (1, .inl x2), (2, .inl x3)], [], w))) := q_calls (as := [.inl x1, .inl x2, .inl x3]) (rest := st) (jd_of jb_282 dX9_mean_43) jo_282 jk_9_135 rfl rfl rfl jf_282_192 (Nat.le_of_ble_eq_true rfl)
theorem p282_46 (lv : jmL) (st : List jmV) (w : jmW) (x : Int) : rn 282 (46, lv, .inl x :: st, w) = if jw x = 0 then rn 282 (49, lv, st, w) else rn 282 (55, lv, st, w) := q_if_ne (jd_of jb_282 dX9_mean_46) (by decide)
theorem p282_49 (lv : jmL) (st : List jmV) (w : jmW) : rn 282 (49, lv, st, w) = jq_lda 282 50 lv st w (jg lv 0) := q_aload_n (jd_of jb_282 dX9_mean_49) rfl
theorem p282_50 (lv : jmL) (st : List jmV) (w : jmW) : rn 282 (50, lv, st, w) = rn 282 (51, lv, .inl (2) :: st, w) := q_iconst (jd_of jb_282 dX9_mean_50)
theorem p282_51 (lv : jmL) (st : List jmV) (w : jmW) (b : Nat) (x1 : Int) : rn 282 (51, lv, .inl x1 :: jvr b :: st, w) = jq_s (mS w b) (1, 9, 0) (jq_b (decide (jwd st ≤ 8)) (jq_c 282 54 lv st (rn 176 (0, [(0, jvr b), (1, .inl x1)], [], w)))) := q_callv (as := [.inl x1]) (rest := st) (jd_of jb_282 dX9_mean_51) jo_282 jk_9_60 rfl rfl rfl jo_176 jf_282_176 (Nat.le_of_ble_eq_true rfl)
theorem p282_54 (lv : jmL) (w : jmW) (x : Int) : rn 282 (54, lv, [.inl x], w) = some (some (.inl x), w) := q_ireturn (jd_of jb_282 dX9_mean_54) jr_282
theorem p282_55 (lv : jmL) (st : List jmV) (w : jmW) : rn 282 (55, lv, st, w) = rn 282 (56, lv, .inl (0) :: st, w) := q_iconst (jd_of jb_282 dX9_mean_55)
theorem p282_56 (lv : jmL) (st : List jmV) (w : jmW) (x : Int) : rn 282 (56, lv, .inl x :: st, w) = rn 282 (58, js lv 4 (.inl x), st, w) := q_istore (jd_of jb_282 dX9_mean_56) (by rw [jm_282]; decide)
theorem p282_58 (lv : jmL) (st : List jmV) (w : jmW) : rn 282 (58, lv, st, w) = rn 282 (59, lv, .inl (0) :: st, w) := q_iconst (jd_of jb_282 dX9_mean_58)
theorem p282_59 (lv : jmL) (st : List jmV) (w : jmW) (x : Int) : rn 282 (59, lv, .inl x :: st, w) = rn 282 (61, js lv 5 (.inl x), st, w) := q_istore (jd_of jb_282 dX9_mean_59) (by rw [jm_282]; decide)
theorem p282_61 (lv : jmL) (st : List jmV) (w : jmW) : rn 282 (61, lv, st, w) = jq_ldi 282 63 lv st w (jg lv 5) := q_iload (jd_of jb_282 dX9_mean_61)
theorem p282_63 (lv : jmL) (st : List jmV) (w : jmW) : rn 282 (63, lv, st, w) = jq_ldi 282 64 lv st w (jg lv 2) := q_iload_n (jd_of jb_282 dX9_mean_63) rfl
theorem p282_64 (lv : jmL) (st : List jmV) (w : jmW) (x y : Int) : rn 282 (64, lv, .inl y :: .inl x :: st, w) = if jw x < jw y then rn 282 (67, lv, st, w) else rn 282 (134, lv, st, w) := q_icmp_ge (jd_of jb_282 dX9_mean_64) (by decide)
theorem p282_67 (lv : jmL) (st : List jmV) (w : jmW) : rn 282 (67, lv, st, w) = jq_lda 282 68 lv st w (jg lv 0) := q_aload_n (jd_of jb_282 dX9_mean_67) rfl
theorem p282_68 (lv : jmL) (st : List jmV) (w : jmW) (b : Nat) : rn 282 (68, lv, jvr b :: st, w) = jq_s (mS w b) (1, 9, 0) (jq_b (decide (jwd st ≤ 8)) (jq_c 282 71 lv st (rn 236 (0, [(0, jvr b)], [], w)))) := q_callv (as := []) (rest := st) (jd_of jb_282 dX9_mean_68) jo_282 jk_9_498 rfl rfl rfl jo_236 jf_282_236 (Nat.le_of_ble_eq_true rfl)
theorem p282_71 (lv : jmL) (st : List jmV) (w : jmW) : rn 282 (71, lv, st, w) = jq_lda 282 72 lv st w (jg lv 0) := q_aload_n (jd_of jb_282 dX9_mean_71) rfl
theorem p282_72 (lv : jmL) (st : List jmV) (w : jmW) (b : Nat) : rn 282 (72, lv, jvr b :: st, w) = jq_s (mS w b) (1, 9, 0) (jq_b (decide (jwd st ≤ 8)) (jq_c 282 75 lv st (rn 237 (0, [(0, jvr b)], [], w)))) := q_callv (as := []) (rest := st) (jd_of jb_282 dX9_mean_72) jo_282 jk_9_501 rfl rfl rfl jo_237 jf_282_237 (Nat.le_of_ble_eq_true rfl)
theorem p282_75 (lv : jmL) (st : List jmV) (w : jmW) : rn 282 (75, lv, st, w) = jq_lda 282 76 lv st w (jg lv 0) := q_aload_n (jd_of jb_282 dX9_mean_75) rfl
theorem p282_76 (lv : jmL) (st : List jmV) (w : jmW) (a : Nat) : rn 282 (76, lv, jvr a :: st, w) = jq_gs (mS w a) (1, 9, 0) 282 79 lv (.inr (.inr (mR w a 19)) :: st) (w) := q_getf (v := fun w a => .inr (.inr (mR w a 19))) (jd_of jb_282 dX9_mean_76) jo_282 jk_9_24 (fun _ _ => rfl)
theorem p282_79 (lv : jmL) (st : List jmV) (w : jmW) : rn 282 (79, lv, st, w) = rn 282 (82, lv, .inl (295) :: st, w) := q_sipush (jd_of jb_282 dX9_mean_79) (by decide +kernel)
theorem p282_82 (lv : jmL) (st : List jmV) (w : jmW) : rn 282 (82, lv, st, w) = jq_ldi 282 83 lv st w (jg lv 1) := q_iload_n (jd_of jb_282 dX9_mean_82) rfl
theorem p282_83 (lv : jmL) (st : List jmV) (w : jmW) : rn 282 (83, lv, st, w) = jq_ldi 282 85 lv st w (jg lv 5) := q_iload (jd_of jb_282 dX9_mean_83)
theorem p282_85 (lv : jmL) (st : List jmV) (w : jmW) (x y : Int) : rn 282 (85, lv, .inl y :: .inl x :: st, w) = rn 282 (86, lv, .inl (x + y) :: st, w) := q_iadd (jd_of jb_282 dX9_mean_85)
theorem p282_86 (lv : jmL) (st : List jmV) (w : jmW) : rn 282 (86, lv, st, w) = rn 282 (89, lv, .inl (65537) :: st, w) := q_ldcw_i (jd_of jb_282 dX9_mean_86) jo_282 jk_9_564
theorem p282_89 (lv : jmL) (st : List jmV) (w : jmW) (x y : Int) : rn 282 (89, lv, .inl y :: .inl x :: st, w) = if jw y = 0 then none else rn 282 (90, lv, .inl ((jw x).tmod (jw y)) :: st, w) := q_irem (jd_of jb_282 dX9_mean_89)
theorem p282_90 (lv : jmL) (st : List jmV) (w : jmW) (a : Nat) (j x : Int) : rn 282 (90, lv, .inl x :: .inl j :: jvr a :: st, w) = jq_gw (mS w a) 0 j 282 91 lv (st) (setI w a (jix j) x) := q_iast (jd_of jb_282 dX9_mean_90)
theorem p282_91 (lv : jmL) (st : List jmV) (w : jmW) : rn 282 (91, lv, st, w) = rn 282 (92, lv, .inl (0) :: st, w) := q_iconst (jd_of jb_282 dX9_mean_91)
theorem p282_92 (lv : jmL) (st : List jmV) (w : jmW) (x : Int) : rn 282 (92, lv, .inl x :: st, w) = rn 282 (94, js lv 6 (.inl x), st, w) := q_istore (jd_of jb_282 dX9_mean_92) (by rw [jm_282]; decide)
theorem p282_94 (lv : jmL) (st : List jmV) (w : jmW) : rn 282 (94, lv, st, w) = jq_ldi 282 96 lv st w (jg lv 6) := q_iload (jd_of jb_282 dX9_mean_94)
theorem p282_96 (lv : jmL) (st : List jmV) (w : jmW) : rn 282 (96, lv, st, w) = jq_ldi 282 97 lv st w (jg lv 3) := q_iload_n (jd_of jb_282 dX9_mean_96) rfl
theorem p282_97 (lv : jmL) (st : List jmV) (w : jmW) (x y : Int) : rn 282 (97, lv, .inl y :: .inl x :: st, w) = if jw x < jw y then rn 282 (100, lv, st, w) else rn 282 (115, lv, st, w) := q_icmp_ge (jd_of jb_282 dX9_mean_97) (by decide)
theorem p282_100 (lv : jmL) (st : List jmV) (w : jmW) : rn 282 (100, lv, st, w) = jq_lda 282 101 lv st w (jg lv 0) := q_aload_n (jd_of jb_282 dX9_mean_100) rfl
theorem p282_101 (lv : jmL) (st : List jmV) (w : jmW) : rn 282 (101, lv, st, w) = jq_lda 282 102 lv st w (jg lv 0) := q_aload_n (jd_of jb_282 dX9_mean_101) rfl
theorem p282_102 (lv : jmL) (st : List jmV) (w : jmW) (a : Nat) : rn 282 (102, lv, jvr a :: st, w) = jq_gs (mS w a) (1, 9, 0) 282 105 lv (.inr (.inr (mR w a 19)) :: st) (w) := q_getf (v := fun w a => .inr (.inr (mR w a 19))) (jd_of jb_282 dX9_mean_102) jo_282 jk_9_24 (fun _ _ => rfl)
theorem p282_105 (lv : jmL) (st : List jmV) (w : jmW) : rn 282 (105, lv, st, w) = rn 282 (106, lv, .inl (0) :: st, w) := q_iconst (jd_of jb_282 dX9_mean_105)
theorem p282_106 (lv : jmL) (st : List jmV) (w : jmW) (b : Nat) (x1 : Option Nat) (x2 : Int) : rn 282 (106, lv, .inl x2 :: .inr (.inr x1) :: jvr b :: st, w) = jq_s (mS w b) (1, 9, 0) (jq_b (decide (jwd st ≤ 8)) (jq_c 282 109 lv st (rn 238 (0, [(0, jvr b), (1, .inr (.inr x1)), (2, .inl x2)], [], w)))) := q_callv (as := [.inr (.inr x1), .inl x2]) (rest := st) (jd_of jb_282 dX9_mean_106) jo_282 jk_9_504 rfl rfl rfl jo_238 jf_282_238 (Nat.le_of_ble_eq_true rfl)
theorem p282_109 (lv : jmL) (st : List jmV) (w : jmW) : rn 282 (109, lv, st, w) = jq_inc 282 112 lv 6 (1) st w (jg lv 6) := q_iinc (jd_of jb_282 dX9_mean_109) (by rw [jm_282]; decide)
theorem p282_112 (lv : jmL) (st : List jmV) (w : jmW) : rn 282 (112, lv, st, w) = rn 282 (94, lv, st, w) := q_goto (jd_of jb_282 dX9_mean_112) (by decide)
theorem p282_115 (lv : jmL) (st : List jmV) (w : jmW) : rn 282 (115, lv, st, w) = jq_ldi 282 117 lv st w (jg lv 4) := q_iload (jd_of jb_282 dX9_mean_115)
theorem p282_117 (lv : jmL) (st : List jmV) (w : jmW) : rn 282 (117, lv, st, w) = jq_lda 282 118 lv st w (jg lv 0) := q_aload_n (jd_of jb_282 dX9_mean_117) rfl
theorem p282_118 (lv : jmL) (st : List jmV) (w : jmW) (a : Nat) : rn 282 (118, lv, jvr a :: st, w) = jq_gs (mS w a) (1, 9, 0) 282 121 lv (.inr (.inr (mR w a 19)) :: st) (w) := q_getf (v := fun w a => .inr (.inr (mR w a 19))) (jd_of jb_282 dX9_mean_118) jo_282 jk_9_24 (fun _ _ => rfl)
theorem p282_121 (lv : jmL) (st : List jmV) (w : jmW) : rn 282 (121, lv, st, w) = rn 282 (124, lv, .inl (289) :: st, w) := q_sipush (jd_of jb_282 dX9_mean_121) (by decide +kernel)
theorem p282_124 (lv : jmL) (st : List jmV) (w : jmW) (a : Nat) (j : Int) : rn 282 (124, lv, .inl j :: jvr a :: st, w) = jq_gr (mS w a) 0 j 282 125 lv (.inl (mI w a (jix j)) :: st) (w) := q_iald (jd_of jb_282 dX9_mean_124)
theorem p282_125 (lv : jmL) (st : List jmV) (w : jmW) (x y : Int) : rn 282 (125, lv, .inl y :: .inl x :: st, w) = rn 282 (126, lv, .inl (x + y) :: st, w) := q_iadd (jd_of jb_282 dX9_mean_125)
theorem p282_126 (lv : jmL) (st : List jmV) (w : jmW) (x : Int) : rn 282 (126, lv, .inl x :: st, w) = rn 282 (128, js lv 4 (.inl x), st, w) := q_istore (jd_of jb_282 dX9_mean_126) (by rw [jm_282]; decide)
theorem p282_128 (lv : jmL) (st : List jmV) (w : jmW) : rn 282 (128, lv, st, w) = jq_inc 282 131 lv 5 (1) st w (jg lv 5) := q_iinc (jd_of jb_282 dX9_mean_128) (by rw [jm_282]; decide)
theorem p282_131 (lv : jmL) (st : List jmV) (w : jmW) : rn 282 (131, lv, st, w) = rn 282 (61, lv, st, w) := q_goto (jd_of jb_282 dX9_mean_131) (by decide)
theorem p282_134 (lv : jmL) (st : List jmV) (w : jmW) : rn 282 (134, lv, st, w) = jq_lda 282 135 lv st w (jg lv 0) := q_aload_n (jd_of jb_282 dX9_mean_134) rfl
theorem p282_135 (lv : jmL) (st : List jmV) (w : jmW) : rn 282 (135, lv, st, w) = jq_ldi 282 137 lv st w (jg lv 4) := q_iload (jd_of jb_282 dX9_mean_135)
theorem p282_137 (lv : jmL) (st : List jmV) (w : jmW) (b : Nat) (x1 : Int) : rn 282 (137, lv, .inl x1 :: jvr b :: st, w) = jq_s (mS w b) (1, 9, 0) (jq_b (decide (jwd st ≤ 8)) (jq_c 282 140 lv st (rn 213 (0, [(0, jvr b), (1, .inl x1)], [], w)))) := q_callv (as := [.inl x1]) (rest := st) (jd_of jb_282 dX9_mean_137) jo_282 jk_9_64 rfl rfl rfl jo_213 jf_282_213 (Nat.le_of_ble_eq_true rfl)
theorem p282_140 (lv : jmL) (w : jmW) (x : Int) : rn 282 (140, lv, [.inl x], w) = some (some (.inl x), w) := q_ireturn (jd_of jb_282 dX9_mean_140) jr_282
theorem p283_0 (lv : jmL) (st : List jmV) (w : jmW) : rn 283 (0, lv, st, w) = jq_lda 283 1 lv st w (jg lv 0) := q_aload_n (jd_of jb_283 dX9_late_0) rfl
theorem p283_1 (lv : jmL) (st : List jmV) (w : jmW) : rn 283 (1, lv, st, w) = rn 283 (2, lv, .inl (0) :: st, w) := q_iconst (jd_of jb_283 dX9_late_1)
theorem p283_2 (lv : jmL) (st : List jmV) (w : jmW) (a : Nat) (x : Int) : rn 283 (2, lv, .inl x :: jvr a :: st, w) = jq_gs (mS w a) (1, 9, 0) 283 5 lv (st) (setI w a 0 x) := q_putf (jd_of jb_283 dX9_late_2) jo_283 jk_9_54 (Or.inl rfl) rfl
theorem p283_5 (lv : jmL) (st : List jmV) (w : jmW) : rn 283 (5, lv, st, w) = jq_lda 283 6 lv st w (jg lv 0) := q_aload_n (jd_of jb_283 dX9_late_5) rfl
theorem p283_6 (lv : jmL) (st : List jmV) (w : jmW) : rn 283 (6, lv, st, w) = jq_ldi 283 7 lv st w (jg lv 1) := q_iload_n (jd_of jb_283 dX9_late_6) rfl
theorem p283_7 (lv : jmL) (st : List jmV) (w : jmW) : rn 283 (7, lv, st, w) = jq_ldi 283 8 lv st w (jg lv 2) := q_iload_n (jd_of jb_283 dX9_late_7) rfl
theorem p283_8 (lv : jmL) (st : List jmV) (w : jmW) (b : Nat) (x1 : Int) (x2 : Int) : rn 283 (8, lv, .inl x2 :: .inl x1 :: jvr b :: st, w) = jq_s (mS w b) (1, 9, 0) (jq_b (decide (jwd st ≤ 8)) (jq_c 283 11 lv st (rn 217 (0, [(0, jvr b), (1, .inl x1), (2, .inl x2)], [], w)))) := q_callv (as := [.inl x1, .inl x2]) (rest := st) (jd_of jb_283 dX9_late_8) jo_283 jk_9_508 rfl rfl rfl jo_217 jf_283_217 (Nat.le_of_ble_eq_true rfl)
theorem p283_11 (lv : jmL) (st : List jmV) (w : jmW) (x : Int) : rn 283 (11, lv, .inl x :: st, w) = if jw x = 0 then rn 283 (57, lv, st, w) else rn 283 (14, lv, st, w) := q_if_eq (jd_of jb_283 dX9_late_11) (by decide)
theorem p283_14 (lv : jmL) (st : List jmV) (w : jmW) : rn 283 (14, lv, st, w) = jq_lda 283 15 lv st w (jg lv 0) := q_aload_n (jd_of jb_283 dX9_late_14) rfl
theorem p283_15 (lv : jmL) (st : List jmV) (w : jmW) (a : Nat) : rn 283 (15, lv, jvr a :: st, w) = jq_gs (mS w a) (1, 9, 0) 283 18 lv (.inr (.inr (mR w a 18)) :: st) (w) := q_getf (v := fun w a => .inr (.inr (mR w a 18))) (jd_of jb_283 dX9_late_15) jo_283 jk_9_21 (fun _ _ => rfl)
theorem p283_18 (lv : jmL) (st : List jmV) (w : jmW) : rn 283 (18, lv, st, w) = rn 283 (21, lv, .inl (296) :: st, w) := q_sipush (jd_of jb_283 dX9_late_18) (by decide +kernel)
theorem p283_21 (lv : jmL) (st : List jmV) (w : jmW) (a : Nat) (j : Int) : rn 283 (21, lv, .inl j :: jvr a :: st, w) = jq_gr (mS w a) 0 j 283 22 lv (.inl (mI w a (jix j)) :: st) (w) := q_iald (jd_of jb_283 dX9_late_21)
theorem p283_22 (lv : jmL) (st : List jmV) (w : jmW) : rn 283 (22, lv, st, w) = rn 283 (24, lv, .inl (-2) :: st, w) := q_bipush (jd_of jb_283 dX9_late_22) (by decide +kernel)
theorem p283_24 (lv : jmL) (st : List jmV) (w : jmW) (x y : Int) : rn 283 (24, lv, .inl y :: .inl x :: st, w) = if jw x = jw y then rn 283 (57, lv, st, w) else rn 283 (27, lv, st, w) := q_icmp_eq (jd_of jb_283 dX9_late_24) (by decide)
theorem p283_27 (lv : jmL) (st : List jmV) (w : jmW) : rn 283 (27, lv, st, w) = jq_lda 283 28 lv st w (jg lv 0) := q_aload_n (jd_of jb_283 dX9_late_27) rfl
theorem p283_28 (lv : jmL) (st : List jmV) (w : jmW) : rn 283 (28, lv, st, w) = jq_lda 283 29 lv st w (jg lv 0) := q_aload_n (jd_of jb_283 dX9_late_28) rfl
theorem p283_29 (lv : jmL) (st : List jmV) (w : jmW) : rn 283 (29, lv, st, w) = jq_lda 283 30 lv st w (jg lv 0) := q_aload_n (jd_of jb_283 dX9_late_29) rfl
theorem p283_30 (lv : jmL) (st : List jmV) (w : jmW) (a : Nat) : rn 283 (30, lv, jvr a :: st, w) = jq_gs (mS w a) (1, 9, 0) 283 33 lv (.inr (.inr (mR w a 3)) :: st) (w) := q_getf (v := fun w a => .inr (.inr (mR w a 3))) (jd_of jb_283 dX9_late_30) jo_283 jk_9_389 (fun _ _ => rfl)
theorem p283_33 (lv : jmL) (st : List jmV) (w : jmW) (a : Nat) : rn 283 (33, lv, jvr a :: st, w) = jq_gs (mS w a) (1, 8, 0) 283 36 lv (.inl (mI w a 0) :: st) (w) := q_getf (v := fun w a => .inl (mI w a 0)) (jd_of jb_283 dX9_late_33) jo_283 jk_9_154 (fun _ _ => rfl)
theorem p283_36 (lv : jmL) (st : List jmV) (w : jmW) : rn 283 (36, lv, st, w) = jq_ldi 283 37 lv st w (jg lv 2) := q_iload_n (jd_of jb_283 dX9_late_36) rfl
theorem p283_37 (lv : jmL) (st : List jmV) (w : jmW) (x y : Int) : rn 283 (37, lv, .inl y :: .inl x :: st, w) = rn 283 (38, lv, .inl (x * y) :: st, w) := q_imul (jd_of jb_283 dX9_late_37)
theorem p283_38 (lv : jmL) (st : List jmV) (w : jmW) : rn 283 (38, lv, st, w) = jq_ldi 283 39 lv st w (jg lv 1) := q_iload_n (jd_of jb_283 dX9_late_38) rfl
theorem p283_39 (lv : jmL) (st : List jmV) (w : jmW) (x y : Int) : rn 283 (39, lv, .inl y :: .inl x :: st, w) = rn 283 (40, lv, .inl (x + y) :: st, w) := q_iadd (jd_of jb_283 dX9_late_39)
theorem p283_40 (lv : jmL) (st : List jmV) (w : jmW) : rn 283 (40, lv, st, w) = jq_lda 283 41 lv st w (jg lv 0) := q_aload_n (jd_of jb_283 dX9_late_40) rfl
theorem p283_41 (lv : jmL) (st : List jmV) (w : jmW) (a : Nat) : rn 283 (41, lv, jvr a :: st, w) = jq_gs (mS w a) (1, 9, 0) 283 44 lv (.inr (.inr (mR w a 18)) :: st) (w) := q_getf (v := fun w a => .inr (.inr (mR w a 18))) (jd_of jb_283 dX9_late_41) jo_283 jk_9_21 (fun _ _ => rfl)
theorem p283_44 (lv : jmL) (st : List jmV) (w : jmW) : rn 283 (44, lv, st, w) = rn 283 (47, lv, .inl (296) :: st, w) := q_sipush (jd_of jb_283 dX9_late_44) (by decide +kernel)
theorem p283_47 (lv : jmL) (st : List jmV) (w : jmW) (a : Nat) (j : Int) : rn 283 (47, lv, .inl j :: jvr a :: st, w) = jq_gr (mS w a) 0 j 283 48 lv (.inl (mI w a (jix j)) :: st) (w) := q_iald (jd_of jb_283 dX9_late_47)
theorem p283_48 (lv : jmL) (st : List jmV) (w : jmW) (b : Nat) (x1 : Int) (x2 : Int) : rn 283 (48, lv, .inl x2 :: .inl x1 :: jvr b :: st, w) = jq_s (mS w b) (1, 9, 0) (jq_b (decide (jwd st ≤ 8)) (jq_c 283 51 lv st (rn 284 (0, [(0, jvr b), (1, .inl x1), (2, .inl x2)], [], w)))) := q_callv (as := [.inl x1, .inl x2]) (rest := st) (jd_of jb_283 dX9_late_48) jo_283 jk_9_567 rfl rfl rfl jo_284 jf_283_284 (Nat.le_of_ble_eq_true rfl)
theorem p283_51 (lv : jmL) (st : List jmV) (w : jmW) (b : Nat) (x1 : Int) : rn 283 (51, lv, .inl x1 :: jvr b :: st, w) = jq_s (mS w b) (1, 9, 0) (jq_b (decide (jwd st ≤ 8)) (jq_c 283 54 lv st (rn 213 (0, [(0, jvr b), (1, .inl x1)], [], w)))) := q_callv (as := [.inl x1]) (rest := st) (jd_of jb_283 dX9_late_51) jo_283 jk_9_64 rfl rfl rfl jo_213 jf_283_213 (Nat.le_of_ble_eq_true rfl)
theorem p283_54 (lv : jmL) (st : List jmV) (w : jmW) : rn 283 (54, lv, st, w) = rn 283 (62, lv, st, w) := q_goto (jd_of jb_283 dX9_late_54) (by decide)
theorem p283_57 (lv : jmL) (st : List jmV) (w : jmW) : rn 283 (57, lv, st, w) = jq_lda 283 58 lv st w (jg lv 0) := q_aload_n (jd_of jb_283 dX9_late_57) rfl
theorem p283_58 (lv : jmL) (st : List jmV) (w : jmW) : rn 283 (58, lv, st, w) = rn 283 (59, lv, .inl (1) :: st, w) := q_iconst (jd_of jb_283 dX9_late_58)
theorem p283_59 (lv : jmL) (st : List jmV) (w : jmW) (b : Nat) (x1 : Int) : rn 283 (59, lv, .inl x1 :: jvr b :: st, w) = jq_s (mS w b) (1, 9, 0) (jq_b (decide (jwd st ≤ 8)) (jq_c 283 62 lv st (rn 176 (0, [(0, jvr b), (1, .inl x1)], [], w)))) := q_callv (as := [.inl x1]) (rest := st) (jd_of jb_283 dX9_late_59) jo_283 jk_9_60 rfl rfl rfl jo_176 jf_283_176 (Nat.le_of_ble_eq_true rfl)
theorem p283_62 (lv : jmL) (w : jmW) (x : Int) : rn 283 (62, lv, [.inl x], w) = some (some (.inl x), w) := q_ireturn (jd_of jb_283 dX9_late_62) jr_283
theorem p284_0 (lv : jmL) (st : List jmV) (w : jmW) : rn 284 (0, lv, st, w) = jq_lda 284 1 lv st w (jg lv 0) := q_aload_n (jd_of jb_284 dX9_lateAt_0) rfl
theorem p284_1 (lv : jmL) (st : List jmV) (w : jmW) (a : Nat) : rn 284 (1, lv, jvr a :: st, w) = jq_gs (mS w a) (1, 9, 0) 284 4 lv (.inr (.inr (mR w a 3)) :: st) (w) := q_getf (v := fun w a => .inr (.inr (mR w a 3))) (jd_of jb_284 dX9_lateAt_1) jo_284 jk_9_389 (fun _ _ => rfl)
theorem p284_4 (lv : jmL) (st : List jmV) (w : jmW) : rn 284 (4, lv, st, w) = jq_ldi 284 5 lv st w (jg lv 1) := q_iload_n (jd_of jb_284 dX9_lateAt_4) rfl
theorem p284_5 (lv : jmL) (st : List jmV) (w : jmW) : rn 284 (5, lv, st, w) = jq_ldi 284 6 lv st w (jg lv 2) := q_iload_n (jd_of jb_284 dX9_lateAt_5) rfl
theorem p284_6 (lv : jmL) (st : List jmV) (w : jmW) (b : Nat) (x1 : Int) (x2 : Int) : rn 284 (6, lv, .inl x2 :: .inl x1 :: jvr b :: st, w) = jq_s (mS w b) (1, 8, 0) (jq_b (decide (jwd st ≤ 8)) (jq_c 284 9 lv st (rn 285 (0, [(0, jvr b), (1, .inl x1), (2, .inl x2)], [], w)))) := q_callv (as := [.inl x1, .inl x2]) (rest := st) (jd_of jb_284 dX9_lateAt_6) jo_284 jk_9_565 rfl rfl rfl jo_285 jf_284_285 (Nat.le_of_ble_eq_true rfl)
theorem p284_9 (lv : jmL) (st : List jmV) (w : jmW) : rn 284 (9, lv, st, w) = jq_lda 284 10 lv st w (jg lv 0) := q_aload_n (jd_of jb_284 dX9_lateAt_9) rfl
theorem p284_10 (lv : jmL) (st : List jmV) (w : jmW) (a : Nat) : rn 284 (10, lv, jvr a :: st, w) = jq_gs (mS w a) (1, 9, 0) 284 13 lv (.inr (.inr (mR w a 3)) :: st) (w) := q_getf (v := fun w a => .inr (.inr (mR w a 3))) (jd_of jb_284 dX9_lateAt_10) jo_284 jk_9_389 (fun _ _ => rfl)
theorem p284_13 (lv : jmL) (st : List jmV) (w : jmW) (a : Nat) : rn 284 (13, lv, jvr a :: st, w) = jq_gs (mS w a) (1, 8, 0) 284 16 lv (.inl (mI w a 11) :: st) (w) := q_getf (v := fun w a => .inl (mI w a 11)) (jd_of jb_284 dX9_lateAt_13) jo_284 jk_9_285 (fun _ _ => rfl)
theorem p284_16 (lv : jmL) (st : List jmV) (w : jmW) (x y : Int) : rn 284 (16, lv, .inl y :: .inl x :: st, w) = if jw y = 0 then none else rn 284 (17, lv, .inl ((jw x).tdiv (jw y)) :: st, w) := q_idiv (jd_of jb_284 dX9_lateAt_16)
theorem p284_17 (lv : jmL) (w : jmW) (x : Int) : rn 284 (17, lv, [.inl x], w) = some (some (.inl x), w) := q_ireturn (jd_of jb_284 dX9_lateAt_17) jr_284
theorem p285_0 (lv : jmL) (st : List jmV) (w : jmW) : rn 285 (0, lv, st, w) = jq_ldi 285 1 lv st w (jg lv 1) := q_iload_n (jd_of jb_285 dX8_far_0) rfl
theorem p285_1 (lv : jmL) (st : List jmV) (w : jmW) : rn 285 (1, lv, st, w) = jq_lda 285 2 lv st w (jg lv 0) := q_aload_n (jd_of jb_285 dX8_far_1) rfl
theorem p285_2 (lv : jmL) (st : List jmV) (w : jmW) (a : Nat) : rn 285 (2, lv, jvr a :: st, w) = jq_gs (mS w a) (1, 8, 0) 285 5 lv (.inl (mI w a 0) :: st) (w) := q_getf (v := fun w a => .inl (mI w a 0)) (jd_of jb_285 dX8_far_2) jo_285 jk_8_74 (fun _ _ => rfl)
theorem p285_5 (lv : jmL) (st : List jmV) (w : jmW) (x y : Int) : rn 285 (5, lv, .inl y :: .inl x :: st, w) = if jw y = 0 then none else rn 285 (6, lv, .inl ((jw x).tmod (jw y)) :: st, w) := q_irem (jd_of jb_285 dX8_far_5)
theorem p285_6 (lv : jmL) (st : List jmV) (w : jmW) : rn 285 (6, lv, st, w) = jq_ldi 285 7 lv st w (jg lv 2) := q_iload_n (jd_of jb_285 dX8_far_6) rfl
theorem p285_7 (lv : jmL) (st : List jmV) (w : jmW) : rn 285 (7, lv, st, w) = jq_lda 285 8 lv st w (jg lv 0) := q_aload_n (jd_of jb_285 dX8_far_7) rfl
theorem p285_8 (lv : jmL) (st : List jmV) (w : jmW) (a : Nat) : rn 285 (8, lv, jvr a :: st, w) = jq_gs (mS w a) (1, 8, 0) 285 11 lv (.inl (mI w a 0) :: st) (w) := q_getf (v := fun w a => .inl (mI w a 0)) (jd_of jb_285 dX8_far_8) jo_285 jk_8_74 (fun _ _ => rfl)
theorem p285_11 (lv : jmL) (st : List jmV) (w : jmW) (x y : Int) : rn 285 (11, lv, .inl y :: .inl x :: st, w) = if jw y = 0 then none else rn 285 (12, lv, .inl ((jw x).tmod (jw y)) :: st, w) := q_irem (jd_of jb_285 dX8_far_11)
theorem p285_12 (lv : jmL) (st : List jmV) (w : jmW) (x y : Int) : rn 285 (12, lv, .inl y :: .inl x :: st, w) = rn 285 (13, lv, .inl (x - y) :: st, w) := q_isub (jd_of jb_285 dX8_far_12)
theorem p285_13 (lv : jmL) (st : List jmV) (w : jmW) (x : Int) : rn 285 (13, lv, .inl x :: st, w) = rn 285 (14, js lv 3 (.inl x), st, w) := q_istore_n (jd_of jb_285 dX8_far_13) rfl (by rw [jm_285]; decide)
theorem p285_14 (lv : jmL) (st : List jmV) (w : jmW) : rn 285 (14, lv, st, w) = jq_ldi 285 15 lv st w (jg lv 1) := q_iload_n (jd_of jb_285 dX8_far_14) rfl
theorem p285_15 (lv : jmL) (st : List jmV) (w : jmW) : rn 285 (15, lv, st, w) = jq_lda 285 16 lv st w (jg lv 0) := q_aload_n (jd_of jb_285 dX8_far_15) rfl
theorem p285_16 (lv : jmL) (st : List jmV) (w : jmW) (a : Nat) : rn 285 (16, lv, jvr a :: st, w) = jq_gs (mS w a) (1, 8, 0) 285 19 lv (.inl (mI w a 0) :: st) (w) := q_getf (v := fun w a => .inl (mI w a 0)) (jd_of jb_285 dX8_far_16) jo_285 jk_8_74 (fun _ _ => rfl)
theorem p285_19 (lv : jmL) (st : List jmV) (w : jmW) (x y : Int) : rn 285 (19, lv, .inl y :: .inl x :: st, w) = if jw y = 0 then none else rn 285 (20, lv, .inl ((jw x).tdiv (jw y)) :: st, w) := q_idiv (jd_of jb_285 dX8_far_19)
theorem p285_20 (lv : jmL) (st : List jmV) (w : jmW) : rn 285 (20, lv, st, w) = jq_ldi 285 21 lv st w (jg lv 2) := q_iload_n (jd_of jb_285 dX8_far_20) rfl
theorem p285_21 (lv : jmL) (st : List jmV) (w : jmW) : rn 285 (21, lv, st, w) = jq_lda 285 22 lv st w (jg lv 0) := q_aload_n (jd_of jb_285 dX8_far_21) rfl
theorem p285_22 (lv : jmL) (st : List jmV) (w : jmW) (a : Nat) : rn 285 (22, lv, jvr a :: st, w) = jq_gs (mS w a) (1, 8, 0) 285 25 lv (.inl (mI w a 0) :: st) (w) := q_getf (v := fun w a => .inl (mI w a 0)) (jd_of jb_285 dX8_far_22) jo_285 jk_8_74 (fun _ _ => rfl)
theorem p285_25 (lv : jmL) (st : List jmV) (w : jmW) (x y : Int) : rn 285 (25, lv, .inl y :: .inl x :: st, w) = if jw y = 0 then none else rn 285 (26, lv, .inl ((jw x).tdiv (jw y)) :: st, w) := q_idiv (jd_of jb_285 dX8_far_25)
theorem p285_26 (lv : jmL) (st : List jmV) (w : jmW) (x y : Int) : rn 285 (26, lv, .inl y :: .inl x :: st, w) = rn 285 (27, lv, .inl (x - y) :: st, w) := q_isub (jd_of jb_285 dX8_far_26)
theorem p285_27 (lv : jmL) (st : List jmV) (w : jmW) (x : Int) : rn 285 (27, lv, .inl x :: st, w) = rn 285 (29, js lv 4 (.inl x), st, w) := q_istore (jd_of jb_285 dX8_far_27) (by rw [jm_285]; decide)
theorem p285_29 (lv : jmL) (st : List jmV) (w : jmW) : rn 285 (29, lv, st, w) = jq_ldi 285 30 lv st w (jg lv 3) := q_iload_n (jd_of jb_285 dX8_far_29) rfl
theorem p285_30 (lv : jmL) (st : List jmV) (w : jmW) (x : Int) : rn 285 (30, lv, .inl x :: st, w) = if jw x < 0 then rn 285 (33, lv, st, w) else rn 285 (38, lv, st, w) := q_if_ge (jd_of jb_285 dX8_far_30) (by decide)
theorem p285_33 (lv : jmL) (st : List jmV) (w : jmW) : rn 285 (33, lv, st, w) = jq_ldi 285 34 lv st w (jg lv 3) := q_iload_n (jd_of jb_285 dX8_far_33) rfl
theorem p285_34 (lv : jmL) (st : List jmV) (w : jmW) (x : Int) : rn 285 (34, lv, .inl x :: st, w) = rn 285 (35, lv, .inl (-x) :: st, w) := q_ineg (jd_of jb_285 dX8_far_34)
theorem p285_35 (lv : jmL) (st : List jmV) (w : jmW) : rn 285 (35, lv, st, w) = rn 285 (39, lv, st, w) := q_goto (jd_of jb_285 dX8_far_35) (by decide)
theorem p285_38 (lv : jmL) (st : List jmV) (w : jmW) : rn 285 (38, lv, st, w) = jq_ldi 285 39 lv st w (jg lv 3) := q_iload_n (jd_of jb_285 dX8_far_38) rfl
theorem p285_39 (lv : jmL) (st : List jmV) (w : jmW) : rn 285 (39, lv, st, w) = jq_ldi 285 41 lv st w (jg lv 4) := q_iload (jd_of jb_285 dX8_far_39)
theorem p285_41 (lv : jmL) (st : List jmV) (w : jmW) (x : Int) : rn 285 (41, lv, .inl x :: st, w) = if jw x < 0 then rn 285 (44, lv, st, w) else rn 285 (50, lv, st, w) := q_if_ge (jd_of jb_285 dX8_far_41) (by decide)
theorem p285_44 (lv : jmL) (st : List jmV) (w : jmW) : rn 285 (44, lv, st, w) = jq_ldi 285 46 lv st w (jg lv 4) := q_iload (jd_of jb_285 dX8_far_44)
theorem p285_46 (lv : jmL) (st : List jmV) (w : jmW) (x : Int) : rn 285 (46, lv, .inl x :: st, w) = rn 285 (47, lv, .inl (-x) :: st, w) := q_ineg (jd_of jb_285 dX8_far_46)
theorem p285_47 (lv : jmL) (st : List jmV) (w : jmW) : rn 285 (47, lv, st, w) = rn 285 (52, lv, st, w) := q_goto (jd_of jb_285 dX8_far_47) (by decide)
theorem p285_50 (lv : jmL) (st : List jmV) (w : jmW) : rn 285 (50, lv, st, w) = jq_ldi 285 52 lv st w (jg lv 4) := q_iload (jd_of jb_285 dX8_far_50)
theorem p285_52 (lv : jmL) (st : List jmV) (w : jmW) (x y : Int) : rn 285 (52, lv, .inl y :: .inl x :: st, w) = rn 285 (53, lv, .inl (x + y) :: st, w) := q_iadd (jd_of jb_285 dX8_far_52)
theorem p285_53 (lv : jmL) (w : jmW) (x : Int) : rn 285 (53, lv, [.inl x], w) = some (some (.inl x), w) := q_ireturn (jd_of jb_285 dX8_far_53) jr_285
theorem p286_0 (lv : jmL) (st : List jmV) (w : jmW) : rn 286 (0, lv, st, w) = jq_lda 286 1 lv st w (jg lv 0) := q_aload_n (jd_of jb_286 dX9_kicks_0) rfl
theorem p286_1 (lv : jmL) (st : List jmV) (w : jmW) : rn 286 (1, lv, st, w) = rn 286 (2, lv, .inl (0) :: st, w) := q_iconst (jd_of jb_286 dX9_kicks_1)
theorem p286_2 (lv : jmL) (st : List jmV) (w : jmW) (a : Nat) (x : Int) : rn 286 (2, lv, .inl x :: jvr a :: st, w) = jq_gs (mS w a) (1, 9, 0) 286 5 lv (st) (setI w a 0 x) := q_putf (jd_of jb_286 dX9_kicks_2) jo_286 jk_9_54 (Or.inl rfl) rfl
theorem p286_5 (lv : jmL) (st : List jmV) (w : jmW) : rn 286 (5, lv, st, w) = jq_lda 286 6 lv st w (jg lv 0) := q_aload_n (jd_of jb_286 dX9_kicks_5) rfl
theorem p286_6 (lv : jmL) (st : List jmV) (w : jmW) (a : Nat) : rn 286 (6, lv, jvr a :: st, w) = jq_gs (mS w a) (1, 9, 0) 286 9 lv (.inr (.inr (mR w a 3)) :: st) (w) := q_getf (v := fun w a => .inr (.inr (mR w a 3))) (jd_of jb_286 dX9_kicks_6) jo_286 jk_9_389 (fun _ _ => rfl)
theorem p286_9n (lv : jmL) (st : List jmV) (w : jmW) : rn 286 (9, lv, .inr (.inr none) :: st, w) = rn 286 (12, lv, st, w) := q_ifnonnull_n (tgt := 20) (jd_of jb_286 dX9_kicks_9) (by decide)
theorem p286_9s (lv : jmL) (st : List jmV) (w : jmW) (a : Nat) : rn 286 (9, lv, .inr (.inr (some a)) :: st, w) = rn 286 (20, lv, st, w) := q_ifnonnull_s (tgt := 20) (jd_of jb_286 dX9_kicks_9) (by decide)
theorem p286_12 (lv : jmL) (st : List jmV) (w : jmW) : rn 286 (12, lv, st, w) = jq_lda 286 13 lv st w (jg lv 0) := q_aload_n (jd_of jb_286 dX9_kicks_12) rfl
theorem p286_13 (lv : jmL) (st : List jmV) (w : jmW) : rn 286 (13, lv, st, w) = rn 286 (14, lv, .inl (1) :: st, w) := q_iconst (jd_of jb_286 dX9_kicks_13)
theorem p286_14 (lv : jmL) (st : List jmV) (w : jmW) (b : Nat) (x1 : Int) : rn 286 (14, lv, .inl x1 :: jvr b :: st, w) = jq_s (mS w b) (1, 9, 0) (jq_b (decide (jwd st ≤ 8)) (jq_c 286 17 lv st (rn 176 (0, [(0, jvr b), (1, .inl x1)], [], w)))) := q_callv (as := [.inl x1]) (rest := st) (jd_of jb_286 dX9_kicks_14) jo_286 jk_9_60 rfl rfl rfl jo_176 jf_286_176 (Nat.le_of_ble_eq_true rfl)
theorem p286_17 (lv : jmL) (st : List jmV) (w : jmW) : rn 286 (17, lv, st, w) = rn 286 (56, lv, st, w) := q_goto (jd_of jb_286 dX9_kicks_17) (by decide)
theorem p286_20 (lv : jmL) (st : List jmV) (w : jmW) : rn 286 (20, lv, st, w) = jq_lda 286 21 lv st w (jg lv 0) := q_aload_n (jd_of jb_286 dX9_kicks_20) rfl
theorem p286_21 (lv : jmL) (st : List jmV) (w : jmW) : rn 286 (21, lv, st, w) = jq_lda 286 22 lv st w (jg lv 0) := q_aload_n (jd_of jb_286 dX9_kicks_21) rfl
theorem p286_22 (lv : jmL) (st : List jmV) (w : jmW) (a : Nat) : rn 286 (22, lv, jvr a :: st, w) = jq_gs (mS w a) (1, 9, 0) 286 25 lv (.inr (.inr (mR w a 3)) :: st) (w) := q_getf (v := fun w a => .inr (.inr (mR w a 3))) (jd_of jb_286 dX9_kicks_22) jo_286 jk_9_389 (fun _ _ => rfl)
theorem p286_25 (lv : jmL) (st : List jmV) (w : jmW) (a : Nat) : rn 286 (25, lv, jvr a :: st, w) = jq_gs (mS w a) (1, 8, 0) 286 28 lv (.inr (.inr (mR w a 27)) :: st) (w) := q_getf (v := fun w a => .inr (.inr (mR w a 27))) (jd_of jb_286 dX9_kicks_25) jo_286 jk_9_289 (fun _ _ => rfl)
theorem p286_28 (lv : jmL) (st : List jmV) (w : jmW) : rn 286 (28, lv, st, w) = jq_lda 286 29 lv st w (jg lv 0) := q_aload_n (jd_of jb_286 dX9_kicks_28) rfl
theorem p286_29 (lv : jmL) (st : List jmV) (w : jmW) (a : Nat) : rn 286 (29, lv, jvr a :: st, w) = jq_gs (mS w a) (1, 9, 0) 286 32 lv (.inr (.inr (mR w a 18)) :: st) (w) := q_getf (v := fun w a => .inr (.inr (mR w a 18))) (jd_of jb_286 dX9_kicks_29) jo_286 jk_9_21 (fun _ _ => rfl)
theorem p286_32 (lv : jmL) (st : List jmV) (w : jmW) : rn 286 (32, lv, st, w) = rn 286 (35, lv, .inl (294) :: st, w) := q_sipush (jd_of jb_286 dX9_kicks_32) (by decide +kernel)
theorem p286_35 (lv : jmL) (st : List jmV) (w : jmW) (a : Nat) (j : Int) : rn 286 (35, lv, .inl j :: jvr a :: st, w) = jq_gr (mS w a) 0 j 286 36 lv (.inl (mI w a (jix j)) :: st) (w) := q_iald (jd_of jb_286 dX9_kicks_35)
theorem p286_36 (lv : jmL) (st : List jmV) (w : jmW) : rn 286 (36, lv, st, w) = jq_lda 286 37 lv st w (jg lv 0) := q_aload_n (jd_of jb_286 dX9_kicks_36) rfl
theorem p286_37 (lv : jmL) (st : List jmV) (w : jmW) (a : Nat) : rn 286 (37, lv, jvr a :: st, w) = jq_gs (mS w a) (1, 9, 0) 286 40 lv (.inr (.inr (mR w a 3)) :: st) (w) := q_getf (v := fun w a => .inr (.inr (mR w a 3))) (jd_of jb_286 dX9_kicks_37) jo_286 jk_9_389 (fun _ _ => rfl)
theorem p286_40 (lv : jmL) (st : List jmV) (w : jmW) (a : Nat) : rn 286 (40, lv, jvr a :: st, w) = jq_gs (mS w a) (1, 8, 0) 286 43 lv (.inl (mI w a 5) :: st) (w) := q_getf (v := fun w a => .inl (mI w a 5)) (jd_of jb_286 dX9_kicks_40) jo_286 jk_9_206 (fun _ _ => rfl)
theorem p286_43 (lv : jmL) (st : List jmV) (w : jmW) (x y : Int) : rn 286 (43, lv, .inl y :: .inl x :: st, w) = if jw y = 0 then none else rn 286 (44, lv, .inl ((jw x).tmod (jw y)) :: st, w) := q_irem (jd_of jb_286 dX9_kicks_43)
theorem p286_44 (lv : jmL) (st : List jmV) (w : jmW) (a : Nat) (j : Int) : rn 286 (44, lv, .inl j :: jvr a :: st, w) = jq_gr (mS w a) 0 j 286 45 lv (.inl (mI w a (jix j)) :: st) (w) := q_iald (jd_of jb_286 dX9_kicks_44)
theorem p286_45 (lv : jmL) (st : List jmV) (w : jmW) (x : Int) : rn 286 (45, lv, .inl x :: st, w) = if jw x = 0 then rn 286 (48, lv, st, w) else rn 286 (52, lv, st, w) := q_if_ne (jd_of jb_286 dX9_kicks_45) (by decide)
theorem p286_48 (lv : jmL) (st : List jmV) (w : jmW) : rn 286 (48, lv, st, w) = rn 286 (49, lv, .inl (1) :: st, w) := q_iconst (jd_of jb_286 dX9_kicks_48)
theorem p286_49 (lv : jmL) (st : List jmV) (w : jmW) : rn 286 (49, lv, st, w) = rn 286 (53, lv, st, w) := q_goto (jd_of jb_286 dX9_kicks_49) (by decide)
theorem p286_52 (lv : jmL) (st : List jmV) (w : jmW) : rn 286 (52, lv, st, w) = rn 286 (53, lv, .inl (0) :: st, w) := q_iconst (jd_of jb_286 dX9_kicks_52)
theorem p286_53 (lv : jmL) (st : List jmV) (w : jmW) (b : Nat) (x1 : Int) : rn 286 (53, lv, .inl x1 :: jvr b :: st, w) = jq_s (mS w b) (1, 9, 0) (jq_b (decide (jwd st ≤ 8)) (jq_c 286 56 lv st (rn 213 (0, [(0, jvr b), (1, .inl x1)], [], w)))) := q_callv (as := [.inl x1]) (rest := st) (jd_of jb_286 dX9_kicks_53) jo_286 jk_9_64 rfl rfl rfl jo_213 jf_286_213 (Nat.le_of_ble_eq_true rfl)
theorem p286_56 (lv : jmL) (w : jmW) (x : Int) : rn 286 (56, lv, [.inl x], w) = some (some (.inl x), w) := q_ireturn (jd_of jb_286 dX9_kicks_56) jr_286
theorem p287_0 (lv : jmL) (st : List jmV) (w : jmW) : rn 287 (0, lv, st, w) = jq_lda 287 1 lv st w (jg lv 0) := q_aload_n (jd_of jb_287 dX9_inTime_0) rfl
theorem p287_1 (lv : jmL) (st : List jmV) (w : jmW) : rn 287 (1, lv, st, w) = rn 287 (2, lv, .inl (0) :: st, w) := q_iconst (jd_of jb_287 dX9_inTime_1)
theorem p287_2 (lv : jmL) (st : List jmV) (w : jmW) (a : Nat) (x : Int) : rn 287 (2, lv, .inl x :: jvr a :: st, w) = jq_gs (mS w a) (1, 9, 0) 287 5 lv (st) (setI w a 0 x) := q_putf (jd_of jb_287 dX9_inTime_2) jo_287 jk_9_54 (Or.inl rfl) rfl
theorem p287_5 (lv : jmL) (st : List jmV) (w : jmW) : rn 287 (5, lv, st, w) = jq_lda 287 6 lv st w (jg lv 0) := q_aload_n (jd_of jb_287 dX9_inTime_5) rfl
theorem p287_6 (lv : jmL) (st : List jmV) (w : jmW) (b : Nat) : rn 287 (6, lv, jvr b :: st, w) = jq_s (mS w b) (1, 9, 0) (jq_b (decide (jwd st ≤ 8)) (jq_c 287 9 lv st (rn 288 (0, [(0, jvr b)], [], w)))) := q_callv (as := []) (rest := st) (jd_of jb_287 dX9_inTime_6) jo_287 jk_9_570 rfl rfl rfl jo_288 jf_287_288 (Nat.le_of_ble_eq_true rfl)
theorem p287_9 (lv : jmL) (st : List jmV) (w : jmW) (x : Int) : rn 287 (9, lv, .inl x :: st, w) = rn 287 (10, js lv 1 (.inl x), st, w) := q_istore_n (jd_of jb_287 dX9_inTime_9) rfl (by rw [jm_287]; decide)
theorem p287_10 (lv : jmL) (st : List jmV) (w : jmW) : rn 287 (10, lv, st, w) = jq_ldi 287 11 lv st w (jg lv 1) := q_iload_n (jd_of jb_287 dX9_inTime_10) rfl
theorem p287_11 (lv : jmL) (st : List jmV) (w : jmW) (x : Int) : rn 287 (11, lv, .inl x :: st, w) = if 0 < jw x then rn 287 (14, lv, st, w) else rn 287 (22, lv, st, w) := q_if_le (jd_of jb_287 dX9_inTime_11) (by decide)
theorem p287_14 (lv : jmL) (st : List jmV) (w : jmW) : rn 287 (14, lv, st, w) = jq_lda 287 15 lv st w (jg lv 0) := q_aload_n (jd_of jb_287 dX9_inTime_14) rfl
theorem p287_15 (lv : jmL) (st : List jmV) (w : jmW) : rn 287 (15, lv, st, w) = jq_ldi 287 16 lv st w (jg lv 1) := q_iload_n (jd_of jb_287 dX9_inTime_15) rfl
theorem p287_16 (lv : jmL) (st : List jmV) (w : jmW) (b : Nat) (x1 : Int) : rn 287 (16, lv, .inl x1 :: jvr b :: st, w) = jq_s (mS w b) (1, 9, 0) (jq_b (decide (jwd st ≤ 8)) (jq_c 287 19 lv st (rn 176 (0, [(0, jvr b), (1, .inl x1)], [], w)))) := q_callv (as := [.inl x1]) (rest := st) (jd_of jb_287 dX9_inTime_16) jo_287 jk_9_60 rfl rfl rfl jo_176 jf_287_176 (Nat.le_of_ble_eq_true rfl)
theorem p287_19 (lv : jmL) (st : List jmV) (w : jmW) : rn 287 (19, lv, st, w) = rn 287 (38, lv, st, w) := q_goto (jd_of jb_287 dX9_inTime_19) (by decide)
theorem p287_22 (lv : jmL) (st : List jmV) (w : jmW) : rn 287 (22, lv, st, w) = jq_lda 287 23 lv st w (jg lv 0) := q_aload_n (jd_of jb_287 dX9_inTime_22) rfl
theorem p287_23 (lv : jmL) (st : List jmV) (w : jmW) : rn 287 (23, lv, st, w) = jq_lda 287 24 lv st w (jg lv 0) := q_aload_n (jd_of jb_287 dX9_inTime_23) rfl
theorem p287_24 (lv : jmL) (st : List jmV) (w : jmW) : rn 287 (24, lv, st, w) = jq_lda 287 25 lv st w (jg lv 0) := q_aload_n (jd_of jb_287 dX9_inTime_24) rfl
theorem p287_25 (lv : jmL) (st : List jmV) (w : jmW) (a : Nat) : rn 287 (25, lv, jvr a :: st, w) = jq_gs (mS w a) (1, 9, 0) 287 28 lv (.inr (.inr (mR w a 18)) :: st) (w) := q_getf (v := fun w a => .inr (.inr (mR w a 18))) (jd_of jb_287 dX9_inTime_25) jo_287 jk_9_21 (fun _ _ => rfl)
theorem p287_28 (lv : jmL) (st : List jmV) (w : jmW) : rn 287 (28, lv, st, w) = rn 287 (31, lv, .inl (296) :: st, w) := q_sipush (jd_of jb_287 dX9_inTime_28) (by decide +kernel)
theorem p287_31 (lv : jmL) (st : List jmV) (w : jmW) (a : Nat) (j : Int) : rn 287 (31, lv, .inl j :: jvr a :: st, w) = jq_gr (mS w a) 0 j 287 32 lv (.inl (mI w a (jix j)) :: st) (w) := q_iald (jd_of jb_287 dX9_inTime_31)
theorem p287_32 (lv : jmL) (st : List jmV) (w : jmW) (b : Nat) (x1 : Int) : rn 287 (32, lv, .inl x1 :: jvr b :: st, w) = jq_s (mS w b) (1, 9, 0) (jq_b (decide (jwd st ≤ 8)) (jq_c 287 35 lv st (rn 289 (0, [(0, jvr b), (1, .inl x1)], [], w)))) := q_callv (as := [.inl x1]) (rest := st) (jd_of jb_287 dX9_inTime_32) jo_287 jk_9_573 rfl rfl rfl jo_289 jf_287_289 (Nat.le_of_ble_eq_true rfl)
theorem p287_35 (lv : jmL) (st : List jmV) (w : jmW) (b : Nat) (x1 : Int) : rn 287 (35, lv, .inl x1 :: jvr b :: st, w) = jq_s (mS w b) (1, 9, 0) (jq_b (decide (jwd st ≤ 8)) (jq_c 287 38 lv st (rn 213 (0, [(0, jvr b), (1, .inl x1)], [], w)))) := q_callv (as := [.inl x1]) (rest := st) (jd_of jb_287 dX9_inTime_35) jo_287 jk_9_64 rfl rfl rfl jo_213 jf_287_213 (Nat.le_of_ble_eq_true rfl)
theorem p287_38 (lv : jmL) (w : jmW) (x : Int) : rn 287 (38, lv, [.inl x], w) = some (some (.inl x), w) := q_ireturn (jd_of jb_287 dX9_inTime_38) jr_287
theorem p288_0 (lv : jmL) (st : List jmV) (w : jmW) : rn 288 (0, lv, st, w) = jq_lda 288 1 lv st w (jg lv 0) := q_aload_n (jd_of jb_288 dX9_refusesBand_0) rfl
theorem p288_1 (lv : jmL) (st : List jmV) (w : jmW) (a : Nat) : rn 288 (1, lv, jvr a :: st, w) = jq_gs (mS w a) (1, 9, 0) 288 4 lv (.inr (.inr (mR w a 3)) :: st) (w) := q_getf (v := fun w a => .inr (.inr (mR w a 3))) (jd_of jb_288 dX9_refusesBand_1) jo_288 jk_9_389 (fun _ _ => rfl)
theorem p288_4n (lv : jmL) (st : List jmV) (w : jmW) : rn 288 (4, lv, .inr (.inr none) :: st, w) = rn 288 (7, lv, st, w) := q_ifnonnull_n (tgt := 11) (jd_of jb_288 dX9_refusesBand_4) (by decide)
theorem p288_4s (lv : jmL) (st : List jmV) (w : jmW) (a : Nat) : rn 288 (4, lv, .inr (.inr (some a)) :: st, w) = rn 288 (11, lv, st, w) := q_ifnonnull_s (tgt := 11) (jd_of jb_288 dX9_refusesBand_4) (by decide)
theorem p288_7 (lv : jmL) (st : List jmV) (w : jmW) : rn 288 (7, lv, st, w) = rn 288 (8, lv, .inl (1) :: st, w) := q_iconst (jd_of jb_288 dX9_refusesBand_7)
theorem p288_8 (lv : jmL) (st : List jmV) (w : jmW) : rn 288 (8, lv, st, w) = rn 288 (30, lv, st, w) := q_goto (jd_of jb_288 dX9_refusesBand_8) (by decide)
theorem p288_11 (lv : jmL) (st : List jmV) (w : jmW) : rn 288 (11, lv, st, w) = jq_lda 288 12 lv st w (jg lv 0) := q_aload_n (jd_of jb_288 dX9_refusesBand_11) rfl
theorem p288_12 (lv : jmL) (st : List jmV) (w : jmW) (a : Nat) : rn 288 (12, lv, jvr a :: st, w) = jq_gs (mS w a) (1, 9, 0) 288 15 lv (.inr (.inr (mR w a 18)) :: st) (w) := q_getf (v := fun w a => .inr (.inr (mR w a 18))) (jd_of jb_288 dX9_refusesBand_12) jo_288 jk_9_21 (fun _ _ => rfl)
theorem p288_15 (lv : jmL) (st : List jmV) (w : jmW) : rn 288 (15, lv, st, w) = rn 288 (18, lv, .inl (296) :: st, w) := q_sipush (jd_of jb_288 dX9_refusesBand_15) (by decide +kernel)
theorem p288_18 (lv : jmL) (st : List jmV) (w : jmW) (a : Nat) (j : Int) : rn 288 (18, lv, .inl j :: jvr a :: st, w) = jq_gr (mS w a) 0 j 288 19 lv (.inl (mI w a (jix j)) :: st) (w) := q_iald (jd_of jb_288 dX9_refusesBand_18)
theorem p288_19 (lv : jmL) (st : List jmV) (w : jmW) : rn 288 (19, lv, st, w) = rn 288 (21, lv, .inl (-2) :: st, w) := q_bipush (jd_of jb_288 dX9_refusesBand_19) (by decide +kernel)
theorem p288_21 (lv : jmL) (st : List jmV) (w : jmW) (x y : Int) : rn 288 (21, lv, .inl y :: .inl x :: st, w) = if jw x = jw y then rn 288 (24, lv, st, w) else rn 288 (29, lv, st, w) := q_icmp_ne (jd_of jb_288 dX9_refusesBand_21) (by decide)
theorem p288_24 (lv : jmL) (st : List jmV) (w : jmW) : rn 288 (24, lv, st, w) = rn 288 (26, lv, .inl (6) :: st, w) := q_bipush (jd_of jb_288 dX9_refusesBand_24) (by decide +kernel)
theorem p288_26 (lv : jmL) (st : List jmV) (w : jmW) : rn 288 (26, lv, st, w) = rn 288 (30, lv, st, w) := q_goto (jd_of jb_288 dX9_refusesBand_26) (by decide)
theorem p288_29 (lv : jmL) (st : List jmV) (w : jmW) : rn 288 (29, lv, st, w) = rn 288 (30, lv, .inl (0) :: st, w) := q_iconst (jd_of jb_288 dX9_refusesBand_29)
theorem p288_30 (lv : jmL) (w : jmW) (x : Int) : rn 288 (30, lv, [.inl x], w) = some (some (.inl x), w) := q_ireturn (jd_of jb_288 dX9_refusesBand_30) jr_288
theorem p289_0 (lv : jmL) (st : List jmV) (w : jmW) : rn 289 (0, lv, st, w) = rn 289 (1, lv, .inl (0) :: st, w) := q_iconst (jd_of jb_289 dX9_inTimeBy_0)
theorem p289_1 (lv : jmL) (st : List jmV) (w : jmW) (x : Int) : rn 289 (1, lv, .inl x :: st, w) = rn 289 (2, js lv 2 (.inl x), st, w) := q_istore_n (jd_of jb_289 dX9_inTimeBy_1) rfl (by rw [jm_289]; decide)
theorem p289_2 (lv : jmL) (st : List jmV) (w : jmW) : rn 289 (2, lv, st, w) = rn 289 (3, lv, .inl (0) :: st, w) := q_iconst (jd_of jb_289 dX9_inTimeBy_2)
theorem p289_3 (lv : jmL) (st : List jmV) (w : jmW) (x : Int) : rn 289 (3, lv, .inl x :: st, w) = rn 289 (4, js lv 3 (.inl x), st, w) := q_istore_n (jd_of jb_289 dX9_inTimeBy_3) rfl (by rw [jm_289]; decide)
theorem p289_4 (lv : jmL) (st : List jmV) (w : jmW) : rn 289 (4, lv, st, w) = jq_ldi 289 5 lv st w (jg lv 3) := q_iload_n (jd_of jb_289 dX9_inTimeBy_4) rfl
theorem p289_5 (lv : jmL) (st : List jmV) (w : jmW) : rn 289 (5, lv, st, w) = jq_lda 289 6 lv st w (jg lv 0) := q_aload_n (jd_of jb_289 dX9_inTimeBy_5) rfl
theorem p289_6 (lv : jmL) (st : List jmV) (w : jmW) (a : Nat) : rn 289 (6, lv, jvr a :: st, w) = jq_gs (mS w a) (1, 9, 0) 289 9 lv (.inr (.inr (mR w a 18)) :: st) (w) := q_getf (v := fun w a => .inr (.inr (mR w a 18))) (jd_of jb_289 dX9_inTimeBy_6) jo_289 jk_9_21 (fun _ _ => rfl)
theorem p289_9 (lv : jmL) (st : List jmV) (w : jmW) : rn 289 (9, lv, st, w) = rn 289 (12, lv, .inl (289) :: st, w) := q_sipush (jd_of jb_289 dX9_inTimeBy_9) (by decide +kernel)
theorem p289_12 (lv : jmL) (st : List jmV) (w : jmW) (a : Nat) (j : Int) : rn 289 (12, lv, .inl j :: jvr a :: st, w) = jq_gr (mS w a) 0 j 289 13 lv (.inl (mI w a (jix j)) :: st) (w) := q_iald (jd_of jb_289 dX9_inTimeBy_12)
theorem p289_13 (lv : jmL) (st : List jmV) (w : jmW) (x y : Int) : rn 289 (13, lv, .inl y :: .inl x :: st, w) = if jw x < jw y then rn 289 (16, lv, st, w) else rn 289 (54, lv, st, w) := q_icmp_ge (jd_of jb_289 dX9_inTimeBy_13) (by decide)
theorem p289_16 (lv : jmL) (st : List jmV) (w : jmW) : rn 289 (16, lv, st, w) = jq_ldi 289 17 lv st w (jg lv 2) := q_iload_n (jd_of jb_289 dX9_inTimeBy_16) rfl
theorem p289_17 (lv : jmL) (st : List jmV) (w : jmW) : rn 289 (17, lv, st, w) = jq_lda 289 18 lv st w (jg lv 0) := q_aload_n (jd_of jb_289 dX9_inTimeBy_17) rfl
theorem p289_18 (lv : jmL) (st : List jmV) (w : jmW) : rn 289 (18, lv, st, w) = jq_lda 289 19 lv st w (jg lv 0) := q_aload_n (jd_of jb_289 dX9_inTimeBy_18) rfl
theorem p289_19 (lv : jmL) (st : List jmV) (w : jmW) (a : Nat) : rn 289 (19, lv, jvr a :: st, w) = jq_gs (mS w a) (1, 9, 0) 289 22 lv (.inr (.inr (mR w a 18)) :: st) (w) := q_getf (v := fun w a => .inr (.inr (mR w a 18))) (jd_of jb_289 dX9_inTimeBy_19) jo_289 jk_9_21 (fun _ _ => rfl)
theorem p289_22 (lv : jmL) (st : List jmV) (w : jmW) : rn 289 (22, lv, st, w) = jq_ldi 289 23 lv st w (jg lv 3) := q_iload_n (jd_of jb_289 dX9_inTimeBy_22) rfl
theorem p289_23 (lv : jmL) (st : List jmV) (w : jmW) (x1 : Option Nat) (x2 : Int) : rn 289 (23, lv, .inl x2 :: .inr (.inr x1) :: st, w) = jq_b (decide (jwd st ≤ 8)) (jq_c 289 26 lv st (rn 221 (0, [(0, .inr (.inr x1)), (1, .inl x2)], [], w))) := q_calls (as := [.inr (.inr x1), .inl x2]) (rest := st) (jd_of jb_289 dX9_inTimeBy_23) jo_289 jk_9_409 rfl rfl rfl jf_289_221 (Nat.le_of_ble_eq_true rfl)
theorem p289_26 (lv : jmL) (st : List jmV) (w : jmW) : rn 289 (26, lv, st, w) = jq_ldi 289 27 lv st w (jg lv 1) := q_iload_n (jd_of jb_289 dX9_inTimeBy_26) rfl
theorem p289_27 (lv : jmL) (st : List jmV) (w : jmW) (b : Nat) (x1 : Int) (x2 : Int) : rn 289 (27, lv, .inl x2 :: .inl x1 :: jvr b :: st, w) = jq_s (mS w b) (1, 9, 0) (jq_b (decide (jwd st ≤ 8)) (jq_c 289 30 lv st (rn 284 (0, [(0, jvr b), (1, .inl x1), (2, .inl x2)], [], w)))) := q_callv (as := [.inl x1, .inl x2]) (rest := st) (jd_of jb_289 dX9_inTimeBy_27) jo_289 jk_9_567 rfl rfl rfl jo_284 jf_289_284 (Nat.le_of_ble_eq_true rfl)
theorem p289_30 (lv : jmL) (st : List jmV) (w : jmW) : rn 289 (30, lv, st, w) = jq_lda 289 31 lv st w (jg lv 0) := q_aload_n (jd_of jb_289 dX9_inTimeBy_30) rfl
theorem p289_31 (lv : jmL) (st : List jmV) (w : jmW) (a : Nat) : rn 289 (31, lv, jvr a :: st, w) = jq_gs (mS w a) (1, 9, 0) 289 34 lv (.inr (.inr (mR w a 3)) :: st) (w) := q_getf (v := fun w a => .inr (.inr (mR w a 3))) (jd_of jb_289 dX9_inTimeBy_31) jo_289 jk_9_389 (fun _ _ => rfl)
theorem p289_34 (lv : jmL) (st : List jmV) (w : jmW) (a : Nat) : rn 289 (34, lv, jvr a :: st, w) = jq_gs (mS w a) (1, 8, 0) 289 37 lv (.inl (mI w a 5) :: st) (w) := q_getf (v := fun w a => .inl (mI w a 5)) (jd_of jb_289 dX9_inTimeBy_34) jo_289 jk_9_206 (fun _ _ => rfl)
theorem p289_37 (lv : jmL) (st : List jmV) (w : jmW) (x y : Int) : rn 289 (37, lv, .inl y :: .inl x :: st, w) = if jw y = 0 then none else rn 289 (38, lv, .inl ((jw x).tmod (jw y)) :: st, w) := q_irem (jd_of jb_289 dX9_inTimeBy_37)
theorem p289_38 (lv : jmL) (st : List jmV) (w : jmW) (x : Int) : rn 289 (38, lv, .inl x :: st, w) = if jw x = 0 then rn 289 (41, lv, st, w) else rn 289 (45, lv, st, w) := q_if_ne (jd_of jb_289 dX9_inTimeBy_38) (by decide)
theorem p289_41 (lv : jmL) (st : List jmV) (w : jmW) : rn 289 (41, lv, st, w) = rn 289 (42, lv, .inl (1) :: st, w) := q_iconst (jd_of jb_289 dX9_inTimeBy_41)
theorem p289_42 (lv : jmL) (st : List jmV) (w : jmW) : rn 289 (42, lv, st, w) = rn 289 (46, lv, st, w) := q_goto (jd_of jb_289 dX9_inTimeBy_42) (by decide)
theorem p289_45 (lv : jmL) (st : List jmV) (w : jmW) : rn 289 (45, lv, st, w) = rn 289 (46, lv, .inl (0) :: st, w) := q_iconst (jd_of jb_289 dX9_inTimeBy_45)
theorem p289_46 (lv : jmL) (st : List jmV) (w : jmW) (x y : Int) : rn 289 (46, lv, .inl y :: .inl x :: st, w) = rn 289 (47, lv, .inl (x + y) :: st, w) := q_iadd (jd_of jb_289 dX9_inTimeBy_46)
theorem p289_47 (lv : jmL) (st : List jmV) (w : jmW) (x : Int) : rn 289 (47, lv, .inl x :: st, w) = rn 289 (48, js lv 2 (.inl x), st, w) := q_istore_n (jd_of jb_289 dX9_inTimeBy_47) rfl (by rw [jm_289]; decide)
theorem p289_48 (lv : jmL) (st : List jmV) (w : jmW) : rn 289 (48, lv, st, w) = jq_inc 289 51 lv 3 (1) st w (jg lv 3) := q_iinc (jd_of jb_289 dX9_inTimeBy_48) (by rw [jm_289]; decide)
theorem p289_51 (lv : jmL) (st : List jmV) (w : jmW) : rn 289 (51, lv, st, w) = rn 289 (4, lv, st, w) := q_goto (jd_of jb_289 dX9_inTimeBy_51) (by decide)
theorem p289_54 (lv : jmL) (st : List jmV) (w : jmW) : rn 289 (54, lv, st, w) = jq_ldi 289 55 lv st w (jg lv 2) := q_iload_n (jd_of jb_289 dX9_inTimeBy_54) rfl
theorem p289_55 (lv : jmL) (w : jmW) (x : Int) : rn 289 (55, lv, [.inl x], w) = some (some (.inl x), w) := q_ireturn (jd_of jb_289 dX9_inTimeBy_55) jr_289
theorem p290_0 (lv : jmL) (st : List jmV) (w : jmW) : rn 290 (0, lv, st, w) = jq_lda 290 1 lv st w (jg lv 0) := q_aload_n (jd_of jb_290 dX9_bestBand_0) rfl
theorem p290_1 (lv : jmL) (st : List jmV) (w : jmW) : rn 290 (1, lv, st, w) = rn 290 (2, lv, .inl (0) :: st, w) := q_iconst (jd_of jb_290 dX9_bestBand_1)
theorem p290_2 (lv : jmL) (st : List jmV) (w : jmW) (a : Nat) (x : Int) : rn 290 (2, lv, .inl x :: jvr a :: st, w) = jq_gs (mS w a) (1, 9, 0) 290 5 lv (st) (setI w a 0 x) := q_putf (jd_of jb_290 dX9_bestBand_2) jo_290 jk_9_54 (Or.inl rfl) rfl
theorem p290_5 (lv : jmL) (st : List jmV) (w : jmW) : rn 290 (5, lv, st, w) = jq_lda 290 6 lv st w (jg lv 0) := q_aload_n (jd_of jb_290 dX9_bestBand_5) rfl
theorem p290_6 (lv : jmL) (st : List jmV) (w : jmW) (b : Nat) : rn 290 (6, lv, jvr b :: st, w) = jq_s (mS w b) (1, 9, 0) (jq_b (decide (jwd st ≤ 8)) (jq_c 290 9 lv st (rn 288 (0, [(0, jvr b)], [], w)))) := q_callv (as := []) (rest := st) (jd_of jb_290 dX9_bestBand_6) jo_290 jk_9_570 rfl rfl rfl jo_288 jf_290_288 (Nat.le_of_ble_eq_true rfl)
theorem p290_9 (lv : jmL) (st : List jmV) (w : jmW) (x : Int) : rn 290 (9, lv, .inl x :: st, w) = rn 290 (10, js lv 1 (.inl x), st, w) := q_istore_n (jd_of jb_290 dX9_bestBand_9) rfl (by rw [jm_290]; decide)
theorem p290_10 (lv : jmL) (st : List jmV) (w : jmW) : rn 290 (10, lv, st, w) = jq_ldi 290 11 lv st w (jg lv 1) := q_iload_n (jd_of jb_290 dX9_bestBand_10) rfl
theorem p290_11 (lv : jmL) (st : List jmV) (w : jmW) (x : Int) : rn 290 (11, lv, .inl x :: st, w) = if 0 < jw x then rn 290 (14, lv, st, w) else rn 290 (20, lv, st, w) := q_if_le (jd_of jb_290 dX9_bestBand_11) (by decide)
theorem p290_14 (lv : jmL) (st : List jmV) (w : jmW) : rn 290 (14, lv, st, w) = jq_lda 290 15 lv st w (jg lv 0) := q_aload_n (jd_of jb_290 dX9_bestBand_14) rfl
theorem p290_15 (lv : jmL) (st : List jmV) (w : jmW) : rn 290 (15, lv, st, w) = jq_ldi 290 16 lv st w (jg lv 1) := q_iload_n (jd_of jb_290 dX9_bestBand_15) rfl
theorem p290_16 (lv : jmL) (st : List jmV) (w : jmW) (b : Nat) (x1 : Int) : rn 290 (16, lv, .inl x1 :: jvr b :: st, w) = jq_s (mS w b) (1, 9, 0) (jq_b (decide (jwd st ≤ 8)) (jq_c 290 19 lv st (rn 176 (0, [(0, jvr b), (1, .inl x1)], [], w)))) := q_callv (as := [.inl x1]) (rest := st) (jd_of jb_290 dX9_bestBand_16) jo_290 jk_9_60 rfl rfl rfl jo_176 jf_290_176 (Nat.le_of_ble_eq_true rfl)
theorem p290_19 (lv : jmL) (w : jmW) (x : Int) : rn 290 (19, lv, [.inl x], w) = some (some (.inl x), w) := q_ireturn (jd_of jb_290 dX9_bestBand_19) jr_290
theorem p290_20 (lv : jmL) (st : List jmV) (w : jmW) : rn 290 (20, lv, st, w) = rn 290 (21, lv, .inl (-1) :: st, w) := q_iconst (jd_of jb_290 dX9_bestBand_20)
theorem p290_21 (lv : jmL) (st : List jmV) (w : jmW) (x : Int) : rn 290 (21, lv, .inl x :: st, w) = rn 290 (22, js lv 2 (.inl x), st, w) := q_istore_n (jd_of jb_290 dX9_bestBand_21) rfl (by rw [jm_290]; decide)
theorem p290_22 (lv : jmL) (st : List jmV) (w : jmW) : rn 290 (22, lv, st, w) = rn 290 (23, lv, .inl (0) :: st, w) := q_iconst (jd_of jb_290 dX9_bestBand_22)
theorem p290_23 (lv : jmL) (st : List jmV) (w : jmW) (x : Int) : rn 290 (23, lv, .inl x :: st, w) = rn 290 (24, js lv 3 (.inl x), st, w) := q_istore_n (jd_of jb_290 dX9_bestBand_23) rfl (by rw [jm_290]; decide)
theorem p290_24 (lv : jmL) (st : List jmV) (w : jmW) : rn 290 (24, lv, st, w) = jq_ldi 290 25 lv st w (jg lv 3) := q_iload_n (jd_of jb_290 dX9_bestBand_24) rfl
theorem p290_25 (lv : jmL) (st : List jmV) (w : jmW) : rn 290 (25, lv, st, w) = jq_lda 290 26 lv st w (jg lv 0) := q_aload_n (jd_of jb_290 dX9_bestBand_25) rfl
theorem p290_26 (lv : jmL) (st : List jmV) (w : jmW) (a : Nat) : rn 290 (26, lv, jvr a :: st, w) = jq_gs (mS w a) (1, 9, 0) 290 29 lv (.inr (.inr (mR w a 3)) :: st) (w) := q_getf (v := fun w a => .inr (.inr (mR w a 3))) (jd_of jb_290 dX9_bestBand_26) jo_290 jk_9_389 (fun _ _ => rfl)
theorem p290_29 (lv : jmL) (st : List jmV) (w : jmW) (b : Nat) : rn 290 (29, lv, jvr b :: st, w) = jq_s (mS w b) (1, 8, 0) (jq_b (decide (jwd st ≤ 8)) (jq_c 290 32 lv st (rn 210 (0, [(0, jvr b)], [], w)))) := q_callv (as := []) (rest := st) (jd_of jb_290 dX9_bestBand_29) jo_290 jk_9_576 rfl rfl rfl jo_210 jf_290_210 (Nat.le_of_ble_eq_true rfl)
theorem p290_32 (lv : jmL) (st : List jmV) (w : jmW) (x y : Int) : rn 290 (32, lv, .inl y :: .inl x :: st, w) = if jw x < jw y then rn 290 (35, lv, st, w) else rn 290 (74, lv, st, w) := q_icmp_ge (jd_of jb_290 dX9_bestBand_32) (by decide)
theorem p290_35 (lv : jmL) (st : List jmV) (w : jmW) : rn 290 (35, lv, st, w) = jq_lda 290 36 lv st w (jg lv 0) := q_aload_n (jd_of jb_290 dX9_bestBand_35) rfl
theorem p290_36 (lv : jmL) (st : List jmV) (w : jmW) (a : Nat) : rn 290 (36, lv, jvr a :: st, w) = jq_gs (mS w a) (1, 9, 0) 290 39 lv (.inr (.inr (mR w a 3)) :: st) (w) := q_getf (v := fun w a => .inr (.inr (mR w a 3))) (jd_of jb_290 dX9_bestBand_36) jo_290 jk_9_389 (fun _ _ => rfl)
theorem p290_39 (lv : jmL) (st : List jmV) (w : jmW) (a : Nat) : rn 290 (39, lv, jvr a :: st, w) = jq_gs (mS w a) (1, 8, 0) 290 42 lv (.inr (.inr (mR w a 17)) :: st) (w) := q_getf (v := fun w a => .inr (.inr (mR w a 17))) (jd_of jb_290 dX9_bestBand_39) jo_290 jk_9_275 (fun _ _ => rfl)
theorem p290_42 (lv : jmL) (st : List jmV) (w : jmW) : rn 290 (42, lv, st, w) = jq_ldi 290 43 lv st w (jg lv 3) := q_iload_n (jd_of jb_290 dX9_bestBand_42) rfl
theorem p290_43 (lv : jmL) (st : List jmV) (w : jmW) (a : Nat) (j : Int) : rn 290 (43, lv, .inl j :: jvr a :: st, w) = jq_gr (mS w a) 0 j 290 44 lv (.inl (mI w a (jix j)) :: st) (w) := q_iald (jd_of jb_290 dX9_bestBand_43)
theorem p290_44 (lv : jmL) (st : List jmV) (w : jmW) : rn 290 (44, lv, st, w) = rn 290 (45, lv, .inl (2) :: st, w) := q_iconst (jd_of jb_290 dX9_bestBand_44)
theorem p290_45 (lv : jmL) (st : List jmV) (w : jmW) (x y : Int) : rn 290 (45, lv, .inl y :: .inl x :: st, w) = if jw x = jw y then rn 290 (68, lv, st, w) else rn 290 (48, lv, st, w) := q_icmp_eq (jd_of jb_290 dX9_bestBand_45) (by decide)
theorem p290_48 (lv : jmL) (st : List jmV) (w : jmW) : rn 290 (48, lv, st, w) = jq_ldi 290 49 lv st w (jg lv 2) := q_iload_n (jd_of jb_290 dX9_bestBand_48) rfl
theorem p290_49 (lv : jmL) (st : List jmV) (w : jmW) : rn 290 (49, lv, st, w) = rn 290 (50, lv, .inl (-1) :: st, w) := q_iconst (jd_of jb_290 dX9_bestBand_49)
theorem p290_50 (lv : jmL) (st : List jmV) (w : jmW) (x y : Int) : rn 290 (50, lv, .inl y :: .inl x :: st, w) = if jw x = jw y then rn 290 (66, lv, st, w) else rn 290 (53, lv, st, w) := q_icmp_eq (jd_of jb_290 dX9_bestBand_50) (by decide)
theorem p290_53 (lv : jmL) (st : List jmV) (w : jmW) : rn 290 (53, lv, st, w) = jq_lda 290 54 lv st w (jg lv 0) := q_aload_n (jd_of jb_290 dX9_bestBand_53) rfl
theorem p290_54 (lv : jmL) (st : List jmV) (w : jmW) : rn 290 (54, lv, st, w) = jq_ldi 290 55 lv st w (jg lv 3) := q_iload_n (jd_of jb_290 dX9_bestBand_54) rfl
theorem p290_55 (lv : jmL) (st : List jmV) (w : jmW) (b : Nat) (x1 : Int) : rn 290 (55, lv, .inl x1 :: jvr b :: st, w) = jq_s (mS w b) (1, 9, 0) (jq_b (decide (jwd st ≤ 8)) (jq_c 290 58 lv st (rn 289 (0, [(0, jvr b), (1, .inl x1)], [], w)))) := q_callv (as := [.inl x1]) (rest := st) (jd_of jb_290 dX9_bestBand_55) jo_290 jk_9_573 rfl rfl rfl jo_289 jf_290_289 (Nat.le_of_ble_eq_true rfl)
theorem p290_58 (lv : jmL) (st : List jmV) (w : jmW) : rn 290 (58, lv, st, w) = jq_lda 290 59 lv st w (jg lv 0) := q_aload_n (jd_of jb_290 dX9_bestBand_58) rfl
theorem p290_59 (lv : jmL) (st : List jmV) (w : jmW) : rn 290 (59, lv, st, w) = jq_ldi 290 60 lv st w (jg lv 2) := q_iload_n (jd_of jb_290 dX9_bestBand_59) rfl
theorem p290_60 (lv : jmL) (st : List jmV) (w : jmW) (b : Nat) (x1 : Int) : rn 290 (60, lv, .inl x1 :: jvr b :: st, w) = jq_s (mS w b) (1, 9, 0) (jq_b (decide (jwd st ≤ 8)) (jq_c 290 63 lv st (rn 289 (0, [(0, jvr b), (1, .inl x1)], [], w)))) := q_callv (as := [.inl x1]) (rest := st) (jd_of jb_290 dX9_bestBand_60) jo_290 jk_9_573 rfl rfl rfl jo_289 jf_290_289 (Nat.le_of_ble_eq_true rfl)
theorem p290_63 (lv : jmL) (st : List jmV) (w : jmW) (x y : Int) : rn 290 (63, lv, .inl y :: .inl x :: st, w) = if jw y < jw x then rn 290 (66, lv, st, w) else rn 290 (68, lv, st, w) := q_icmp_le (jd_of jb_290 dX9_bestBand_63) (by decide)
theorem p290_66 (lv : jmL) (st : List jmV) (w : jmW) : rn 290 (66, lv, st, w) = jq_ldi 290 67 lv st w (jg lv 3) := q_iload_n (jd_of jb_290 dX9_bestBand_66) rfl
theorem p290_67 (lv : jmL) (st : List jmV) (w : jmW) (x : Int) : rn 290 (67, lv, .inl x :: st, w) = rn 290 (68, js lv 2 (.inl x), st, w) := q_istore_n (jd_of jb_290 dX9_bestBand_67) rfl (by rw [jm_290]; decide)
theorem p290_68 (lv : jmL) (st : List jmV) (w : jmW) : rn 290 (68, lv, st, w) = jq_inc 290 71 lv 3 (1) st w (jg lv 3) := q_iinc (jd_of jb_290 dX9_bestBand_68) (by rw [jm_290]; decide)
theorem p290_71 (lv : jmL) (st : List jmV) (w : jmW) : rn 290 (71, lv, st, w) = rn 290 (24, lv, st, w) := q_goto (jd_of jb_290 dX9_bestBand_71) (by decide)
theorem p290_74 (lv : jmL) (st : List jmV) (w : jmW) : rn 290 (74, lv, st, w) = jq_lda 290 75 lv st w (jg lv 0) := q_aload_n (jd_of jb_290 dX9_bestBand_74) rfl
theorem p290_75 (lv : jmL) (st : List jmV) (w : jmW) : rn 290 (75, lv, st, w) = jq_ldi 290 76 lv st w (jg lv 2) := q_iload_n (jd_of jb_290 dX9_bestBand_75) rfl
theorem p290_76 (lv : jmL) (st : List jmV) (w : jmW) (b : Nat) (x1 : Int) : rn 290 (76, lv, .inl x1 :: jvr b :: st, w) = jq_s (mS w b) (1, 9, 0) (jq_b (decide (jwd st ≤ 8)) (jq_c 290 79 lv st (rn 213 (0, [(0, jvr b), (1, .inl x1)], [], w)))) := q_callv (as := [.inl x1]) (rest := st) (jd_of jb_290 dX9_bestBand_76) jo_290 jk_9_64 rfl rfl rfl jo_213 jf_290_213 (Nat.le_of_ble_eq_true rfl)
theorem p290_79 (lv : jmL) (w : jmW) (x : Int) : rn 290 (79, lv, [.inl x], w) = some (some (.inl x), w) := q_ireturn (jd_of jb_290 dX9_bestBand_79) jr_290
theorem p291_0 (lv : jmL) (st : List jmV) (w : jmW) : rn 291 (0, lv, st, w) = jq_lda 291 1 lv st w (jg lv 0) := q_aload_n (jd_of jb_291 dX9_out_0) rfl
theorem p291_1 (lv : jmL) (st : List jmV) (w : jmW) : rn 291 (1, lv, st, w) = rn 291 (2, lv, .inl (0) :: st, w) := q_iconst (jd_of jb_291 dX9_out_1)
theorem p291_2 (lv : jmL) (st : List jmV) (w : jmW) (a : Nat) (x : Int) : rn 291 (2, lv, .inl x :: jvr a :: st, w) = jq_gs (mS w a) (1, 9, 0) 291 5 lv (st) (setI w a 0 x) := q_putf (jd_of jb_291 dX9_out_2) jo_291 jk_9_54 (Or.inl rfl) rfl
theorem p291_5 (lv : jmL) (st : List jmV) (w : jmW) : rn 291 (5, lv, st, w) = jq_lda 291 6 lv st w (jg lv 0) := q_aload_n (jd_of jb_291 dX9_out_5) rfl
theorem p291_6 (lv : jmL) (st : List jmV) (w : jmW) (a : Nat) : rn 291 (6, lv, jvr a :: st, w) = jq_gs (mS w a) (1, 9, 0) 291 9 lv (.inr (.inr (mR w a 3)) :: st) (w) := q_getf (v := fun w a => .inr (.inr (mR w a 3))) (jd_of jb_291 dX9_out_6) jo_291 jk_9_389 (fun _ _ => rfl)
theorem p291_9n (lv : jmL) (st : List jmV) (w : jmW) : rn 291 (9, lv, .inr (.inr none) :: st, w) = rn 291 (12, lv, st, w) := q_ifnonnull_n (tgt := 18) (jd_of jb_291 dX9_out_9) (by decide)
theorem p291_9s (lv : jmL) (st : List jmV) (w : jmW) (a : Nat) : rn 291 (9, lv, .inr (.inr (some a)) :: st, w) = rn 291 (18, lv, st, w) := q_ifnonnull_s (tgt := 18) (jd_of jb_291 dX9_out_9) (by decide)
theorem p291_12 (lv : jmL) (st : List jmV) (w : jmW) : rn 291 (12, lv, st, w) = jq_lda 291 13 lv st w (jg lv 0) := q_aload_n (jd_of jb_291 dX9_out_12) rfl
theorem p291_13 (lv : jmL) (st : List jmV) (w : jmW) : rn 291 (13, lv, st, w) = rn 291 (14, lv, .inl (1) :: st, w) := q_iconst (jd_of jb_291 dX9_out_13)
theorem p291_14 (lv : jmL) (st : List jmV) (w : jmW) (b : Nat) (x1 : Int) : rn 291 (14, lv, .inl x1 :: jvr b :: st, w) = jq_s (mS w b) (1, 9, 0) (jq_b (decide (jwd st ≤ 8)) (jq_c 291 17 lv st (rn 176 (0, [(0, jvr b), (1, .inl x1)], [], w)))) := q_callv (as := [.inl x1]) (rest := st) (jd_of jb_291 dX9_out_14) jo_291 jk_9_60 rfl rfl rfl jo_176 jf_291_176 (Nat.le_of_ble_eq_true rfl)
theorem p291_17 (lv : jmL) (w : jmW) (x : Int) : rn 291 (17, lv, [.inl x], w) = some (some (.inl x), w) := q_ireturn (jd_of jb_291 dX9_out_17) jr_291
theorem p291_18 (lv : jmL) (st : List jmV) (w : jmW) : rn 291 (18, lv, st, w) = jq_lda 291 19 lv st w (jg lv 0) := q_aload_n (jd_of jb_291 dX9_out_18) rfl
theorem p291_19 (lv : jmL) (st : List jmV) (w : jmW) (a : Nat) : rn 291 (19, lv, jvr a :: st, w) = jq_gs (mS w a) (1, 9, 0) 291 22 lv (.inr (.inr (mR w a 3)) :: st) (w) := q_getf (v := fun w a => .inr (.inr (mR w a 3))) (jd_of jb_291 dX9_out_19) jo_291 jk_9_389 (fun _ _ => rfl)
theorem p291_22 (lv : jmL) (st : List jmV) (w : jmW) (a : Nat) : rn 291 (22, lv, jvr a :: st, w) = jq_gs (mS w a) (1, 8, 0) 291 25 lv (.inl (mI w a 12) :: st) (w) := q_getf (v := fun w a => .inl (mI w a 12)) (jd_of jb_291 dX9_out_22) jo_291 jk_9_287 (fun _ _ => rfl)
theorem p291_25 (lv : jmL) (st : List jmV) (w : jmW) : rn 291 (25, lv, st, w) = rn 291 (27, lv, .inl (-2) :: st, w) := q_bipush (jd_of jb_291 dX9_out_25) (by decide +kernel)
theorem p291_27 (lv : jmL) (st : List jmV) (w : jmW) (x y : Int) : rn 291 (27, lv, .inl y :: .inl x :: st, w) = if jw x = jw y then rn 291 (30, lv, st, w) else rn 291 (37, lv, st, w) := q_icmp_ne (jd_of jb_291 dX9_out_27) (by decide)
theorem p291_30 (lv : jmL) (st : List jmV) (w : jmW) : rn 291 (30, lv, st, w) = jq_lda 291 31 lv st w (jg lv 0) := q_aload_n (jd_of jb_291 dX9_out_30) rfl
theorem p291_31 (lv : jmL) (st : List jmV) (w : jmW) : rn 291 (31, lv, st, w) = rn 291 (33, lv, .inl (6) :: st, w) := q_bipush (jd_of jb_291 dX9_out_31) (by decide +kernel)
theorem p291_33 (lv : jmL) (st : List jmV) (w : jmW) (b : Nat) (x1 : Int) : rn 291 (33, lv, .inl x1 :: jvr b :: st, w) = jq_s (mS w b) (1, 9, 0) (jq_b (decide (jwd st ≤ 8)) (jq_c 291 36 lv st (rn 176 (0, [(0, jvr b), (1, .inl x1)], [], w)))) := q_callv (as := [.inl x1]) (rest := st) (jd_of jb_291 dX9_out_33) jo_291 jk_9_60 rfl rfl rfl jo_176 jf_291_176 (Nat.le_of_ble_eq_true rfl)
theorem p291_36 (lv : jmL) (w : jmW) (x : Int) : rn 291 (36, lv, [.inl x], w) = some (some (.inl x), w) := q_ireturn (jd_of jb_291 dX9_out_36) jr_291
theorem p291_37 (lv : jmL) (st : List jmV) (w : jmW) : rn 291 (37, lv, st, w) = jq_lda 291 38 lv st w (jg lv 0) := q_aload_n (jd_of jb_291 dX9_out_37) rfl
theorem p291_38 (lv : jmL) (st : List jmV) (w : jmW) : rn 291 (38, lv, st, w) = jq_lda 291 39 lv st w (jg lv 0) := q_aload_n (jd_of jb_291 dX9_out_38) rfl
theorem p291_39 (lv : jmL) (st : List jmV) (w : jmW) (a : Nat) : rn 291 (39, lv, jvr a :: st, w) = jq_gs (mS w a) (1, 9, 0) 291 42 lv (.inr (.inr (mR w a 18)) :: st) (w) := q_getf (v := fun w a => .inr (.inr (mR w a 18))) (jd_of jb_291 dX9_out_39) jo_291 jk_9_21 (fun _ _ => rfl)
theorem p291_42 (lv : jmL) (st : List jmV) (w : jmW) : rn 291 (42, lv, st, w) = rn 291 (43, lv, .inl (0) :: st, w) := q_iconst (jd_of jb_291 dX9_out_42)
theorem p291_43 (lv : jmL) (st : List jmV) (w : jmW) (x1 : Option Nat) (x2 : Int) : rn 291 (43, lv, .inl x2 :: .inr (.inr x1) :: st, w) = jq_b (decide (jwd st ≤ 8)) (jq_c 291 46 lv st (rn 221 (0, [(0, .inr (.inr x1)), (1, .inl x2)], [], w))) := q_calls (as := [.inr (.inr x1), .inl x2]) (rest := st) (jd_of jb_291 dX9_out_43) jo_291 jk_9_409 rfl rfl rfl jf_291_221 (Nat.le_of_ble_eq_true rfl)
theorem p291_46 (lv : jmL) (st : List jmV) (w : jmW) : rn 291 (46, lv, st, w) = jq_lda 291 47 lv st w (jg lv 0) := q_aload_n (jd_of jb_291 dX9_out_46) rfl
theorem p291_47 (lv : jmL) (st : List jmV) (w : jmW) (a : Nat) : rn 291 (47, lv, jvr a :: st, w) = jq_gs (mS w a) (1, 9, 0) 291 50 lv (.inr (.inr (mR w a 18)) :: st) (w) := q_getf (v := fun w a => .inr (.inr (mR w a 18))) (jd_of jb_291 dX9_out_47) jo_291 jk_9_21 (fun _ _ => rfl)
theorem p291_50 (lv : jmL) (st : List jmV) (w : jmW) (b : Nat) (x1 : Int) (x2 : Option Nat) : rn 291 (50, lv, .inr (.inr x2) :: .inl x1 :: jvr b :: st, w) = jq_s (mS w b) (1, 9, 0) (jq_b (decide (jwd st ≤ 8)) (jq_c 291 53 lv st (rn 248 (0, [(0, jvr b), (1, .inl x1), (2, .inr (.inr x2))], [], w)))) := q_callv (as := [.inl x1, .inr (.inr x2)]) (rest := st) (jd_of jb_291 dX9_out_50) jo_291 jk_9_442 rfl rfl rfl jo_248 jf_291_248 (Nat.le_of_ble_eq_true rfl)
theorem p291_53 (lv : jmL) (st : List jmV) (w : jmW) : rn 291 (53, lv, st, w) = jq_lda 291 54 lv st w (jg lv 0) := q_aload_n (jd_of jb_291 dX9_out_53) rfl
theorem p291_54 (lv : jmL) (st : List jmV) (w : jmW) : rn 291 (54, lv, st, w) = jq_lda 291 55 lv st w (jg lv 0) := q_aload_n (jd_of jb_291 dX9_out_54) rfl
theorem p291_55 (lv : jmL) (st : List jmV) (w : jmW) (a : Nat) : rn 291 (55, lv, jvr a :: st, w) = jq_gs (mS w a) (1, 9, 0) 291 58 lv (.inr (.inr (mR w a 24)) :: st) (w) := q_getf (v := fun w a => .inr (.inr (mR w a 24))) (jd_of jb_291 dX9_out_55) jo_291 jk_9_33 (fun _ _ => rfl)
theorem p291_58 (lv : jmL) (st : List jmV) (w : jmW) : rn 291 (58, lv, st, w) = jq_lda 291 59 lv st w (jg lv 0) := q_aload_n (jd_of jb_291 dX9_out_58) rfl
theorem p291_59 (lv : jmL) (st : List jmV) (w : jmW) (a : Nat) : rn 291 (59, lv, jvr a :: st, w) = jq_gs (mS w a) (1, 9, 0) 291 62 lv (.inr (.inr (mR w a 3)) :: st) (w) := q_getf (v := fun w a => .inr (.inr (mR w a 3))) (jd_of jb_291 dX9_out_59) jo_291 jk_9_389 (fun _ _ => rfl)
theorem p291_62 (lv : jmL) (st : List jmV) (w : jmW) (a : Nat) : rn 291 (62, lv, jvr a :: st, w) = jq_gs (mS w a) (1, 8, 0) 291 65 lv (.inl (mI w a 12) :: st) (w) := q_getf (v := fun w a => .inl (mI w a 12)) (jd_of jb_291 dX9_out_62) jo_291 jk_9_287 (fun _ _ => rfl)
theorem p291_65 (lv : jmL) (st : List jmV) (w : jmW) (a : Nat) (j : Int) : rn 291 (65, lv, .inl j :: jvr a :: st, w) = jq_gr (mS w a) 0 j 291 66 lv (.inl (mI w a (jix j)) :: st) (w) := q_iald (jd_of jb_291 dX9_out_65)
theorem p291_66 (lv : jmL) (st : List jmV) (w : jmW) (b : Nat) (x1 : Int) : rn 291 (66, lv, .inl x1 :: jvr b :: st, w) = jq_s (mS w b) (1, 9, 0) (jq_b (decide (jwd st ≤ 8)) (jq_c 291 69 lv st (rn 213 (0, [(0, jvr b), (1, .inl x1)], [], w)))) := q_callv (as := [.inl x1]) (rest := st) (jd_of jb_291 dX9_out_66) jo_291 jk_9_64 rfl rfl rfl jo_213 jf_291_213 (Nat.le_of_ble_eq_true rfl)
theorem p291_69 (lv : jmL) (w : jmW) (x : Int) : rn 291 (69, lv, [.inl x], w) = some (some (.inl x), w) := q_ireturn (jd_of jb_291 dX9_out_69) jr_291
theorem p292_0 (lv : jmL) (st : List jmV) (w : jmW) : rn 292 (0, lv, st, w) = jq_lda 292 1 lv st w (jg lv 0) := q_aload_n (jd_of jb_292 dX9_fits_0) rfl
theorem p292_1 (lv : jmL) (st : List jmV) (w : jmW) : rn 292 (1, lv, st, w) = rn 292 (2, lv, .inl (0) :: st, w) := q_iconst (jd_of jb_292 dX9_fits_1)
theorem p292_2 (lv : jmL) (st : List jmV) (w : jmW) (a : Nat) (x : Int) : rn 292 (2, lv, .inl x :: jvr a :: st, w) = jq_gs (mS w a) (1, 9, 0) 292 5 lv (st) (setI w a 0 x) := q_putf (jd_of jb_292 dX9_fits_2) jo_292 jk_9_54 (Or.inl rfl) rfl
theorem p292_5 (lv : jmL) (st : List jmV) (w : jmW) : rn 292 (5, lv, st, w) = jq_lda 292 6 lv st w (jg lv 0) := q_aload_n (jd_of jb_292 dX9_fits_5) rfl
theorem p292_6 (lv : jmL) (st : List jmV) (w : jmW) (a : Nat) : rn 292 (6, lv, jvr a :: st, w) = jq_gs (mS w a) (1, 9, 0) 292 9 lv (.inr (.inr (mR w a 3)) :: st) (w) := q_getf (v := fun w a => .inr (.inr (mR w a 3))) (jd_of jb_292 dX9_fits_6) jo_292 jk_9_389 (fun _ _ => rfl)
theorem p292_9n (lv : jmL) (st : List jmV) (w : jmW) : rn 292 (9, lv, .inr (.inr none) :: st, w) = rn 292 (12, lv, st, w) := q_ifnonnull_n (tgt := 18) (jd_of jb_292 dX9_fits_9) (by decide)
theorem p292_9s (lv : jmL) (st : List jmV) (w : jmW) (a : Nat) : rn 292 (9, lv, .inr (.inr (some a)) :: st, w) = rn 292 (18, lv, st, w) := q_ifnonnull_s (tgt := 18) (jd_of jb_292 dX9_fits_9) (by decide)
theorem p292_12 (lv : jmL) (st : List jmV) (w : jmW) : rn 292 (12, lv, st, w) = jq_lda 292 13 lv st w (jg lv 0) := q_aload_n (jd_of jb_292 dX9_fits_12) rfl
theorem p292_13 (lv : jmL) (st : List jmV) (w : jmW) : rn 292 (13, lv, st, w) = rn 292 (14, lv, .inl (1) :: st, w) := q_iconst (jd_of jb_292 dX9_fits_13)
theorem p292_14 (lv : jmL) (st : List jmV) (w : jmW) (b : Nat) (x1 : Int) : rn 292 (14, lv, .inl x1 :: jvr b :: st, w) = jq_s (mS w b) (1, 9, 0) (jq_b (decide (jwd st ≤ 8)) (jq_c 292 17 lv st (rn 176 (0, [(0, jvr b), (1, .inl x1)], [], w)))) := q_callv (as := [.inl x1]) (rest := st) (jd_of jb_292 dX9_fits_14) jo_292 jk_9_60 rfl rfl rfl jo_176 jf_292_176 (Nat.le_of_ble_eq_true rfl)
theorem p292_17 (lv : jmL) (w : jmW) (x : Int) : rn 292 (17, lv, [.inl x], w) = some (some (.inl x), w) := q_ireturn (jd_of jb_292 dX9_fits_17) jr_292
theorem p292_18 (lv : jmL) (st : List jmV) (w : jmW) : rn 292 (18, lv, st, w) = rn 292 (19, lv, .inl (0) :: st, w) := q_iconst (jd_of jb_292 dX9_fits_18)
theorem p292_19 (lv : jmL) (st : List jmV) (w : jmW) (x : Int) : rn 292 (19, lv, .inl x :: st, w) = rn 292 (20, js lv 1 (.inl x), st, w) := q_istore_n (jd_of jb_292 dX9_fits_19) rfl (by rw [jm_292]; decide)
theorem p292_20 (lv : jmL) (st : List jmV) (w : jmW) : rn 292 (20, lv, st, w) = rn 292 (21, lv, .inl (0) :: st, w) := q_iconst (jd_of jb_292 dX9_fits_20)
theorem p292_21 (lv : jmL) (st : List jmV) (w : jmW) (x : Int) : rn 292 (21, lv, .inl x :: st, w) = rn 292 (22, js lv 2 (.inl x), st, w) := q_istore_n (jd_of jb_292 dX9_fits_21) rfl (by rw [jm_292]; decide)
theorem p292_22 (lv : jmL) (st : List jmV) (w : jmW) : rn 292 (22, lv, st, w) = jq_ldi 292 23 lv st w (jg lv 2) := q_iload_n (jd_of jb_292 dX9_fits_22) rfl
theorem p292_23 (lv : jmL) (st : List jmV) (w : jmW) : rn 292 (23, lv, st, w) = rn 292 (24, lv, .inl (5) :: st, w) := q_iconst (jd_of jb_292 dX9_fits_23)
theorem p292_24 (lv : jmL) (st : List jmV) (w : jmW) (x y : Int) : rn 292 (24, lv, .inl y :: .inl x :: st, w) = if jw x < jw y then rn 292 (27, lv, st, w) else rn 292 (51, lv, st, w) := q_icmp_ge (jd_of jb_292 dX9_fits_24) (by decide)
theorem p292_27 (lv : jmL) (st : List jmV) (w : jmW) : rn 292 (27, lv, st, w) = jq_ldi 292 28 lv st w (jg lv 1) := q_iload_n (jd_of jb_292 dX9_fits_27) rfl
theorem p292_28 (lv : jmL) (st : List jmV) (w : jmW) : rn 292 (28, lv, st, w) = jq_lda 292 29 lv st w (jg lv 0) := q_aload_n (jd_of jb_292 dX9_fits_28) rfl
theorem p292_29 (lv : jmL) (st : List jmV) (w : jmW) : rn 292 (29, lv, st, w) = jq_ldi 292 30 lv st w (jg lv 2) := q_iload_n (jd_of jb_292 dX9_fits_29) rfl
theorem p292_30 (lv : jmL) (st : List jmV) (w : jmW) (b : Nat) (x1 : Int) : rn 292 (30, lv, .inl x1 :: jvr b :: st, w) = jq_s (mS w b) (1, 9, 0) (jq_b (decide (jwd st ≤ 8)) (jq_c 292 33 lv st (rn 293 (0, [(0, jvr b), (1, .inl x1)], [], w)))) := q_callv (as := [.inl x1]) (rest := st) (jd_of jb_292 dX9_fits_30) jo_292 jk_9_579 rfl rfl rfl jo_293 jf_292_293 (Nat.le_of_ble_eq_true rfl)
theorem p292_33 (lv : jmL) (st : List jmV) (w : jmW) (x : Int) : rn 292 (33, lv, .inl x :: st, w) = if jw x = 0 then rn 292 (42, lv, st, w) else rn 292 (36, lv, st, w) := q_if_eq (jd_of jb_292 dX9_fits_33) (by decide)
theorem p292_36 (lv : jmL) (st : List jmV) (w : jmW) : rn 292 (36, lv, st, w) = rn 292 (37, lv, .inl (1) :: st, w) := q_iconst (jd_of jb_292 dX9_fits_36)
theorem p292_37 (lv : jmL) (st : List jmV) (w : jmW) : rn 292 (37, lv, st, w) = jq_ldi 292 38 lv st w (jg lv 2) := q_iload_n (jd_of jb_292 dX9_fits_37) rfl
theorem p292_38 (lv : jmL) (st : List jmV) (w : jmW) (x y : Int) : rn 292 (38, lv, .inl y :: .inl x :: st, w) = rn 292 (39, lv, .inl (ji_shl x y) :: st, w) := q_ishl (jd_of jb_292 dX9_fits_38)
theorem p292_39 (lv : jmL) (st : List jmV) (w : jmW) : rn 292 (39, lv, st, w) = rn 292 (43, lv, st, w) := q_goto (jd_of jb_292 dX9_fits_39) (by decide)
theorem p292_42 (lv : jmL) (st : List jmV) (w : jmW) : rn 292 (42, lv, st, w) = rn 292 (43, lv, .inl (0) :: st, w) := q_iconst (jd_of jb_292 dX9_fits_42)
theorem p292_43 (lv : jmL) (st : List jmV) (w : jmW) (x y : Int) : rn 292 (43, lv, .inl y :: .inl x :: st, w) = rn 292 (44, lv, .inl (ji_or x y) :: st, w) := q_ior (jd_of jb_292 dX9_fits_43)
theorem p292_44 (lv : jmL) (st : List jmV) (w : jmW) (x : Int) : rn 292 (44, lv, .inl x :: st, w) = rn 292 (45, js lv 1 (.inl x), st, w) := q_istore_n (jd_of jb_292 dX9_fits_44) rfl (by rw [jm_292]; decide)
theorem p292_45 (lv : jmL) (st : List jmV) (w : jmW) : rn 292 (45, lv, st, w) = jq_inc 292 48 lv 2 (1) st w (jg lv 2) := q_iinc (jd_of jb_292 dX9_fits_45) (by rw [jm_292]; decide)
theorem p292_48 (lv : jmL) (st : List jmV) (w : jmW) : rn 292 (48, lv, st, w) = rn 292 (22, lv, st, w) := q_goto (jd_of jb_292 dX9_fits_48) (by decide)
theorem p292_51 (lv : jmL) (st : List jmV) (w : jmW) : rn 292 (51, lv, st, w) = jq_lda 292 52 lv st w (jg lv 0) := q_aload_n (jd_of jb_292 dX9_fits_51) rfl
theorem p292_52 (lv : jmL) (st : List jmV) (w : jmW) : rn 292 (52, lv, st, w) = jq_ldi 292 53 lv st w (jg lv 1) := q_iload_n (jd_of jb_292 dX9_fits_52) rfl
theorem p292_53 (lv : jmL) (st : List jmV) (w : jmW) (b : Nat) (x1 : Int) : rn 292 (53, lv, .inl x1 :: jvr b :: st, w) = jq_s (mS w b) (1, 9, 0) (jq_b (decide (jwd st ≤ 8)) (jq_c 292 56 lv st (rn 213 (0, [(0, jvr b), (1, .inl x1)], [], w)))) := q_callv (as := [.inl x1]) (rest := st) (jd_of jb_292 dX9_fits_53) jo_292 jk_9_64 rfl rfl rfl jo_213 jf_292_213 (Nat.le_of_ble_eq_true rfl)
theorem p292_56 (lv : jmL) (w : jmW) (x : Int) : rn 292 (56, lv, [.inl x], w) = some (some (.inl x), w) := q_ireturn (jd_of jb_292 dX9_fits_56) jr_292
theorem p293_0 (lv : jmL) (st : List jmV) (w : jmW) : rn 293 (0, lv, st, w) = jq_lda 293 1 lv st w (jg lv 0) := q_aload_n (jd_of jb_293 dX9_fitsBy_0) rfl
theorem p293_1 (lv : jmL) (st : List jmV) (w : jmW) : rn 293 (1, lv, st, w) = jq_lda 293 2 lv st w (jg lv 0) := q_aload_n (jd_of jb_293 dX9_fitsBy_1) rfl
theorem p293_2 (lv : jmL) (st : List jmV) (w : jmW) (a : Nat) : rn 293 (2, lv, jvr a :: st, w) = jq_gs (mS w a) (1, 9, 0) 293 5 lv (.inr (.inr (mR w a 19)) :: st) (w) := q_getf (v := fun w a => .inr (.inr (mR w a 19))) (jd_of jb_293 dX9_fitsBy_2) jo_293 jk_9_24 (fun _ _ => rfl)
theorem p293_5 (lv : jmL) (st : List jmV) (w : jmW) (b : Nat) (x1 : Option Nat) : rn 293 (5, lv, .inr (.inr x1) :: jvr b :: st, w) = jq_s (mS w b) (1, 9, 0) (jq_b (decide (jwd st ≤ 8)) (jq_c 293 8 lv st (rn 212 (0, [(0, jvr b), (1, .inr (.inr x1))], [], w)))) := q_callv (as := [.inr (.inr x1)]) (rest := st) (jd_of jb_293 dX9_fitsBy_5) jo_293 jk_9_391 rfl rfl rfl jo_212 jf_293_212 (Nat.le_of_ble_eq_true rfl)
theorem p293_8 (lv : jmL) (st : List jmV) (w : jmW) : rn 293 (8, lv, st, w) = jq_lda 293 9 lv st w (jg lv 0) := q_aload_n (jd_of jb_293 dX9_fitsBy_8) rfl
theorem p293_9 (lv : jmL) (st : List jmV) (w : jmW) (b : Nat) : rn 293 (9, lv, jvr b :: st, w) = jq_s (mS w b) (1, 9, 0) (jq_b (decide (jwd st ≤ 8)) (jq_c 293 12 lv st (rn 237 (0, [(0, jvr b)], [], w)))) := q_callv (as := []) (rest := st) (jd_of jb_293 dX9_fitsBy_9) jo_293 jk_9_501 rfl rfl rfl jo_237 jf_293_237 (Nat.le_of_ble_eq_true rfl)
theorem p293_12 (lv : jmL) (st : List jmV) (w : jmW) : rn 293 (12, lv, st, w) = jq_lda 293 13 lv st w (jg lv 0) := q_aload_n (jd_of jb_293 dX9_fitsBy_12) rfl
theorem p293_13 (lv : jmL) (st : List jmV) (w : jmW) (a : Nat) : rn 293 (13, lv, jvr a :: st, w) = jq_gs (mS w a) (1, 9, 0) 293 16 lv (.inr (.inr (mR w a 19)) :: st) (w) := q_getf (v := fun w a => .inr (.inr (mR w a 19))) (jd_of jb_293 dX9_fitsBy_13) jo_293 jk_9_24 (fun _ _ => rfl)
theorem p293_16 (lv : jmL) (st : List jmV) (w : jmW) : rn 293 (16, lv, st, w) = rn 293 (19, lv, .inl (291) :: st, w) := q_sipush (jd_of jb_293 dX9_fitsBy_16) (by decide +kernel)
theorem p293_19 (lv : jmL) (st : List jmV) (w : jmW) : rn 293 (19, lv, st, w) = jq_ldi 293 20 lv st w (jg lv 1) := q_iload_n (jd_of jb_293 dX9_fitsBy_19) rfl
theorem p293_20 (lv : jmL) (st : List jmV) (w : jmW) (a : Nat) (j x : Int) : rn 293 (20, lv, .inl x :: .inl j :: jvr a :: st, w) = jq_gw (mS w a) 0 j 293 21 lv (st) (setI w a (jix j) x) := q_iast (jd_of jb_293 dX9_fitsBy_20)
theorem p293_21 (lv : jmL) (st : List jmV) (w : jmW) : rn 293 (21, lv, st, w) = rn 293 (22, lv, .inl (1) :: st, w) := q_iconst (jd_of jb_293 dX9_fitsBy_21)
theorem p293_22 (lv : jmL) (st : List jmV) (w : jmW) (x : Int) : rn 293 (22, lv, .inl x :: st, w) = rn 293 (23, js lv 2 (.inl x), st, w) := q_istore_n (jd_of jb_293 dX9_fitsBy_22) rfl (by rw [jm_293]; decide)
theorem p293_23 (lv : jmL) (st : List jmV) (w : jmW) : rn 293 (23, lv, st, w) = rn 293 (24, lv, .inl (0) :: st, w) := q_iconst (jd_of jb_293 dX9_fitsBy_23)
theorem p293_24 (lv : jmL) (st : List jmV) (w : jmW) (x : Int) : rn 293 (24, lv, .inl x :: st, w) = rn 293 (25, js lv 3 (.inl x), st, w) := q_istore_n (jd_of jb_293 dX9_fitsBy_24) rfl (by rw [jm_293]; decide)
theorem p293_25 (lv : jmL) (st : List jmV) (w : jmW) : rn 293 (25, lv, st, w) = jq_ldi 293 26 lv st w (jg lv 3) := q_iload_n (jd_of jb_293 dX9_fitsBy_25) rfl
theorem p293_26 (lv : jmL) (st : List jmV) (w : jmW) : rn 293 (26, lv, st, w) = rn 293 (28, lv, .inl (40) :: st, w) := q_bipush (jd_of jb_293 dX9_fitsBy_26) (by decide +kernel)
theorem p293_28 (lv : jmL) (st : List jmV) (w : jmW) (x y : Int) : rn 293 (28, lv, .inl y :: .inl x :: st, w) = if jw y < jw x then rn 293 (145, lv, st, w) else rn 293 (31, lv, st, w) := q_icmp_gt (jd_of jb_293 dX9_fitsBy_28) (by decide)
theorem p293_31 (lv : jmL) (st : List jmV) (w : jmW) : rn 293 (31, lv, st, w) = jq_ldi 293 32 lv st w (jg lv 2) := q_iload_n (jd_of jb_293 dX9_fitsBy_31) rfl
theorem p293_32 (lv : jmL) (st : List jmV) (w : jmW) (x : Int) : rn 293 (32, lv, .inl x :: st, w) = if jw x = 0 then rn 293 (145, lv, st, w) else rn 293 (35, lv, st, w) := q_if_eq (jd_of jb_293 dX9_fitsBy_32) (by decide)
theorem p293_35 (lv : jmL) (st : List jmV) (w : jmW) : rn 293 (35, lv, st, w) = rn 293 (36, lv, .inl (0) :: st, w) := q_iconst (jd_of jb_293 dX9_fitsBy_35)
theorem p293_36 (lv : jmL) (st : List jmV) (w : jmW) (x : Int) : rn 293 (36, lv, .inl x :: st, w) = rn 293 (38, js lv 4 (.inl x), st, w) := q_istore (jd_of jb_293 dX9_fitsBy_36) (by rw [jm_293]; decide)
theorem p293_38 (lv : jmL) (st : List jmV) (w : jmW) : rn 293 (38, lv, st, w) = jq_ldi 293 40 lv st w (jg lv 4) := q_iload (jd_of jb_293 dX9_fitsBy_38)
theorem p293_40 (lv : jmL) (st : List jmV) (w : jmW) : rn 293 (40, lv, st, w) = jq_lda 293 41 lv st w (jg lv 0) := q_aload_n (jd_of jb_293 dX9_fitsBy_40) rfl
theorem p293_41 (lv : jmL) (st : List jmV) (w : jmW) (a : Nat) : rn 293 (41, lv, jvr a :: st, w) = jq_gs (mS w a) (1, 9, 0) 293 44 lv (.inr (.inr (mR w a 3)) :: st) (w) := q_getf (v := fun w a => .inr (.inr (mR w a 3))) (jd_of jb_293 dX9_fitsBy_41) jo_293 jk_9_389 (fun _ _ => rfl)
theorem p293_44 (lv : jmL) (st : List jmV) (w : jmW) (a : Nat) : rn 293 (44, lv, jvr a :: st, w) = jq_gs (mS w a) (1, 8, 0) 293 47 lv (.inl (mI w a 8) :: st) (w) := q_getf (v := fun w a => .inl (mI w a 8)) (jd_of jb_293 dX9_fitsBy_44) jo_293 jk_9_370 (fun _ _ => rfl)
theorem p293_47 (lv : jmL) (st : List jmV) (w : jmW) (x y : Int) : rn 293 (47, lv, .inl y :: .inl x :: st, w) = if jw x < jw y then rn 293 (50, lv, st, w) else rn 293 (130, lv, st, w) := q_icmp_ge (jd_of jb_293 dX9_fitsBy_47) (by decide)
theorem p293_50 (lv : jmL) (st : List jmV) (w : jmW) : rn 293 (50, lv, st, w) = jq_lda 293 51 lv st w (jg lv 0) := q_aload_n (jd_of jb_293 dX9_fitsBy_50) rfl
theorem p293_51 (lv : jmL) (st : List jmV) (w : jmW) (a : Nat) : rn 293 (51, lv, jvr a :: st, w) = jq_gs (mS w a) (1, 9, 0) 293 54 lv (.inr (.inr (mR w a 3)) :: st) (w) := q_getf (v := fun w a => .inr (.inr (mR w a 3))) (jd_of jb_293 dX9_fitsBy_51) jo_293 jk_9_389 (fun _ _ => rfl)
theorem p293_54 (lv : jmL) (st : List jmV) (w : jmW) (a : Nat) : rn 293 (54, lv, jvr a :: st, w) = jq_gs (mS w a) (1, 8, 0) 293 57 lv (.inr (.inr (mR w a 29)) :: st) (w) := q_getf (v := fun w a => .inr (.inr (mR w a 29))) (jd_of jb_293 dX9_fitsBy_54) jo_293 jk_9_373 (fun _ _ => rfl)
theorem p293_57 (lv : jmL) (st : List jmV) (w : jmW) : rn 293 (57, lv, st, w) = jq_ldi 293 59 lv st w (jg lv 4) := q_iload (jd_of jb_293 dX9_fitsBy_57)
theorem p293_59 (lv : jmL) (st : List jmV) (w : jmW) (a : Nat) (j : Int) : rn 293 (59, lv, .inl j :: jvr a :: st, w) = jq_gr (mS w a) 0 j 293 60 lv (.inl (mI w a (jix j)) :: st) (w) := q_iald (jd_of jb_293 dX9_fitsBy_59)
theorem p293_60 (lv : jmL) (st : List jmV) (w : jmW) : rn 293 (60, lv, st, w) = jq_ldi 293 61 lv st w (jg lv 3) := q_iload_n (jd_of jb_293 dX9_fitsBy_60) rfl
theorem p293_61 (lv : jmL) (st : List jmV) (w : jmW) (x y : Int) : rn 293 (61, lv, .inl y :: .inl x :: st, w) = if jw x = jw y then rn 293 (67, lv, st, w) else rn 293 (64, lv, st, w) := q_icmp_eq (jd_of jb_293 dX9_fitsBy_61) (by decide)
theorem p293_64 (lv : jmL) (st : List jmV) (w : jmW) : rn 293 (64, lv, st, w) = rn 293 (124, lv, st, w) := q_goto (jd_of jb_293 dX9_fitsBy_64) (by decide)
theorem p293_67 (lv : jmL) (st : List jmV) (w : jmW) : rn 293 (67, lv, st, w) = jq_lda 293 68 lv st w (jg lv 0) := q_aload_n (jd_of jb_293 dX9_fitsBy_67) rfl
theorem p293_68 (lv : jmL) (st : List jmV) (w : jmW) (a : Nat) : rn 293 (68, lv, jvr a :: st, w) = jq_gs (mS w a) (1, 9, 0) 293 71 lv (.inr (.inr (mR w a 19)) :: st) (w) := q_getf (v := fun w a => .inr (.inr (mR w a 19))) (jd_of jb_293 dX9_fitsBy_68) jo_293 jk_9_24 (fun _ _ => rfl)
theorem p293_71 (lv : jmL) (st : List jmV) (w : jmW) : rn 293 (71, lv, st, w) = jq_lda 293 72 lv st w (jg lv 0) := q_aload_n (jd_of jb_293 dX9_fitsBy_71) rfl
theorem p293_72 (lv : jmL) (st : List jmV) (w : jmW) (a : Nat) : rn 293 (72, lv, jvr a :: st, w) = jq_gs (mS w a) (1, 9, 0) 293 75 lv (.inr (.inr (mR w a 3)) :: st) (w) := q_getf (v := fun w a => .inr (.inr (mR w a 3))) (jd_of jb_293 dX9_fitsBy_72) jo_293 jk_9_389 (fun _ _ => rfl)
theorem p293_75 (lv : jmL) (st : List jmV) (w : jmW) (a : Nat) : rn 293 (75, lv, jvr a :: st, w) = jq_gs (mS w a) (1, 8, 0) 293 78 lv (.inr (.inr (mR w a 30)) :: st) (w) := q_getf (v := fun w a => .inr (.inr (mR w a 30))) (jd_of jb_293 dX9_fitsBy_75) jo_293 jk_9_376 (fun _ _ => rfl)
theorem p293_78 (lv : jmL) (st : List jmV) (w : jmW) : rn 293 (78, lv, st, w) = jq_ldi 293 80 lv st w (jg lv 4) := q_iload (jd_of jb_293 dX9_fitsBy_78)
theorem p293_80 (lv : jmL) (st : List jmV) (w : jmW) (a : Nat) (j : Int) : rn 293 (80, lv, .inl j :: jvr a :: st, w) = jq_gr (mS w a) 0 j 293 81 lv (.inl (mI w a (jix j)) :: st) (w) := q_iald (jd_of jb_293 dX9_fitsBy_80)
theorem p293_81 (lv : jmL) (st : List jmV) (w : jmW) (x1 : Option Nat) (x2 : Int) : rn 293 (81, lv, .inl x2 :: .inr (.inr x1) :: st, w) = jq_b (decide (jwd st ≤ 8)) (jq_c 293 84 lv st (rn 258 (0, [(0, .inr (.inr x1)), (1, .inl x2)], [], w))) := q_calls (as := [.inr (.inr x1), .inl x2]) (rest := st) (jd_of jb_293 dX9_fitsBy_81) jo_293 jk_9_523 rfl rfl rfl jf_293_258 (Nat.le_of_ble_eq_true rfl)
theorem p293_84 (lv : jmL) (st : List jmV) (w : jmW) (x : Int) : rn 293 (84, lv, .inl x :: st, w) = rn 293 (86, js lv 5 (.inl x), st, w) := q_istore (jd_of jb_293 dX9_fitsBy_84) (by rw [jm_293]; decide)
theorem p293_86 (lv : jmL) (st : List jmV) (w : jmW) : rn 293 (86, lv, st, w) = jq_ldi 293 87 lv st w (jg lv 2) := q_iload_n (jd_of jb_293 dX9_fitsBy_86) rfl
theorem p293_87 (lv : jmL) (st : List jmV) (w : jmW) (x : Int) : rn 293 (87, lv, .inl x :: st, w) = if jw x = 0 then rn 293 (122, lv, st, w) else rn 293 (90, lv, st, w) := q_if_eq (jd_of jb_293 dX9_fitsBy_87) (by decide)
theorem p293_90 (lv : jmL) (st : List jmV) (w : jmW) : rn 293 (90, lv, st, w) = jq_ldi 293 92 lv st w (jg lv 5) := q_iload (jd_of jb_293 dX9_fitsBy_90)
theorem p293_92 (lv : jmL) (st : List jmV) (w : jmW) : rn 293 (92, lv, st, w) = rn 293 (93, lv, .inl (-1) :: st, w) := q_iconst (jd_of jb_293 dX9_fitsBy_92)
theorem p293_93 (lv : jmL) (st : List jmV) (w : jmW) (x y : Int) : rn 293 (93, lv, .inl y :: .inl x :: st, w) = if jw x = jw y then rn 293 (122, lv, st, w) else rn 293 (96, lv, st, w) := q_icmp_eq (jd_of jb_293 dX9_fitsBy_93) (by decide)
theorem p293_96 (lv : jmL) (st : List jmV) (w : jmW) : rn 293 (96, lv, st, w) = jq_lda 293 97 lv st w (jg lv 0) := q_aload_n (jd_of jb_293 dX9_fitsBy_96) rfl
theorem p293_97 (lv : jmL) (st : List jmV) (w : jmW) (a : Nat) : rn 293 (97, lv, jvr a :: st, w) = jq_gs (mS w a) (1, 9, 0) 293 100 lv (.inr (.inr (mR w a 19)) :: st) (w) := q_getf (v := fun w a => .inr (.inr (mR w a 19))) (jd_of jb_293 dX9_fitsBy_97) jo_293 jk_9_24 (fun _ _ => rfl)
theorem p293_100 (lv : jmL) (st : List jmV) (w : jmW) : rn 293 (100, lv, st, w) = jq_ldi 293 102 lv st w (jg lv 5) := q_iload (jd_of jb_293 dX9_fitsBy_100)
theorem p293_102 (lv : jmL) (st : List jmV) (w : jmW) (x1 : Option Nat) (x2 : Int) : rn 293 (102, lv, .inl x2 :: .inr (.inr x1) :: st, w) = jq_b (decide (jwd st ≤ 8)) (jq_c 293 105 lv st (rn 221 (0, [(0, .inr (.inr x1)), (1, .inl x2)], [], w))) := q_calls (as := [.inr (.inr x1), .inl x2]) (rest := st) (jd_of jb_293 dX9_fitsBy_102) jo_293 jk_9_409 rfl rfl rfl jf_293_221 (Nat.le_of_ble_eq_true rfl)
theorem p293_105 (lv : jmL) (st : List jmV) (w : jmW) : rn 293 (105, lv, st, w) = jq_lda 293 106 lv st w (jg lv 0) := q_aload_n (jd_of jb_293 dX9_fitsBy_105) rfl
theorem p293_106 (lv : jmL) (st : List jmV) (w : jmW) (a : Nat) : rn 293 (106, lv, jvr a :: st, w) = jq_gs (mS w a) (1, 9, 0) 293 109 lv (.inr (.inr (mR w a 3)) :: st) (w) := q_getf (v := fun w a => .inr (.inr (mR w a 3))) (jd_of jb_293 dX9_fitsBy_106) jo_293 jk_9_389 (fun _ _ => rfl)
theorem p293_109 (lv : jmL) (st : List jmV) (w : jmW) (a : Nat) : rn 293 (109, lv, jvr a :: st, w) = jq_gs (mS w a) (1, 8, 0) 293 112 lv (.inr (.inr (mR w a 31)) :: st) (w) := q_getf (v := fun w a => .inr (.inr (mR w a 31))) (jd_of jb_293 dX9_fitsBy_109) jo_293 jk_9_379 (fun _ _ => rfl)
theorem p293_112 (lv : jmL) (st : List jmV) (w : jmW) : rn 293 (112, lv, st, w) = jq_ldi 293 114 lv st w (jg lv 4) := q_iload (jd_of jb_293 dX9_fitsBy_112)
theorem p293_114 (lv : jmL) (st : List jmV) (w : jmW) (a : Nat) (j : Int) : rn 293 (114, lv, .inl j :: jvr a :: st, w) = jq_gr (mS w a) 0 j 293 115 lv (.inl (mI w a (jix j)) :: st) (w) := q_iald (jd_of jb_293 dX9_fitsBy_114)
theorem p293_115 (lv : jmL) (st : List jmV) (w : jmW) (x y : Int) : rn 293 (115, lv, .inl y :: .inl x :: st, w) = if jw x = jw y then rn 293 (118, lv, st, w) else rn 293 (122, lv, st, w) := q_icmp_ne (jd_of jb_293 dX9_fitsBy_115) (by decide)
theorem p293_118 (lv : jmL) (st : List jmV) (w : jmW) : rn 293 (118, lv, st, w) = rn 293 (119, lv, .inl (1) :: st, w) := q_iconst (jd_of jb_293 dX9_fitsBy_118)
theorem p293_119 (lv : jmL) (st : List jmV) (w : jmW) : rn 293 (119, lv, st, w) = rn 293 (123, lv, st, w) := q_goto (jd_of jb_293 dX9_fitsBy_119) (by decide)
theorem p293_122 (lv : jmL) (st : List jmV) (w : jmW) : rn 293 (122, lv, st, w) = rn 293 (123, lv, .inl (0) :: st, w) := q_iconst (jd_of jb_293 dX9_fitsBy_122)
theorem p293_123 (lv : jmL) (st : List jmV) (w : jmW) (x : Int) : rn 293 (123, lv, .inl x :: st, w) = rn 293 (124, js lv 2 (.inl x), st, w) := q_istore_n (jd_of jb_293 dX9_fitsBy_123) rfl (by rw [jm_293]; decide)
theorem p293_124 (lv : jmL) (st : List jmV) (w : jmW) : rn 293 (124, lv, st, w) = jq_inc 293 127 lv 4 (1) st w (jg lv 4) := q_iinc (jd_of jb_293 dX9_fitsBy_124) (by rw [jm_293]; decide)
theorem p293_127 (lv : jmL) (st : List jmV) (w : jmW) : rn 293 (127, lv, st, w) = rn 293 (38, lv, st, w) := q_goto (jd_of jb_293 dX9_fitsBy_127) (by decide)
theorem p293_130 (lv : jmL) (st : List jmV) (w : jmW) : rn 293 (130, lv, st, w) = jq_lda 293 131 lv st w (jg lv 0) := q_aload_n (jd_of jb_293 dX9_fitsBy_130) rfl
theorem p293_131 (lv : jmL) (st : List jmV) (w : jmW) : rn 293 (131, lv, st, w) = jq_lda 293 132 lv st w (jg lv 0) := q_aload_n (jd_of jb_293 dX9_fitsBy_131) rfl
theorem p293_132 (lv : jmL) (st : List jmV) (w : jmW) (a : Nat) : rn 293 (132, lv, jvr a :: st, w) = jq_gs (mS w a) (1, 9, 0) 293 135 lv (.inr (.inr (mR w a 19)) :: st) (w) := q_getf (v := fun w a => .inr (.inr (mR w a 19))) (jd_of jb_293 dX9_fitsBy_132) jo_293 jk_9_24 (fun _ _ => rfl)
theorem p293_135 (lv : jmL) (st : List jmV) (w : jmW) : rn 293 (135, lv, st, w) = rn 293 (136, lv, .inl (0) :: st, w) := q_iconst (jd_of jb_293 dX9_fitsBy_135)
theorem p293_136 (lv : jmL) (st : List jmV) (w : jmW) (b : Nat) (x1 : Option Nat) (x2 : Int) : rn 293 (136, lv, .inl x2 :: .inr (.inr x1) :: jvr b :: st, w) = jq_s (mS w b) (1, 9, 0) (jq_b (decide (jwd st ≤ 8)) (jq_c 293 139 lv st (rn 238 (0, [(0, jvr b), (1, .inr (.inr x1)), (2, .inl x2)], [], w)))) := q_callv (as := [.inr (.inr x1), .inl x2]) (rest := st) (jd_of jb_293 dX9_fitsBy_136) jo_293 jk_9_504 rfl rfl rfl jo_238 jf_293_238 (Nat.le_of_ble_eq_true rfl)
theorem p293_139 (lv : jmL) (st : List jmV) (w : jmW) : rn 293 (139, lv, st, w) = jq_inc 293 142 lv 3 (1) st w (jg lv 3) := q_iinc (jd_of jb_293 dX9_fitsBy_139) (by rw [jm_293]; decide)
theorem p293_142 (lv : jmL) (st : List jmV) (w : jmW) : rn 293 (142, lv, st, w) = rn 293 (25, lv, st, w) := q_goto (jd_of jb_293 dX9_fitsBy_142) (by decide)
theorem p293_145 (lv : jmL) (st : List jmV) (w : jmW) : rn 293 (145, lv, st, w) = jq_ldi 293 146 lv st w (jg lv 2) := q_iload_n (jd_of jb_293 dX9_fitsBy_145) rfl
theorem p293_146 (lv : jmL) (w : jmW) (x : Int) : rn 293 (146, lv, [.inl x], w) = jq_b (decide (x = 0 ∨ x = 1)) (some (some (.inl x), w)) := q_zreturn (jd_of jb_293 dX9_fitsBy_146) jr_293
theorem p294_0 (lv : jmL) (st : List jmV) (w : jmW) : rn 294 (0, lv, st, w) = jq_lda 294 1 lv st w (jg lv 0) := q_aload_n (jd_of jb_294 dX9_dance_0) rfl
theorem p294_1 (lv : jmL) (st : List jmV) (w : jmW) : rn 294 (1, lv, st, w) = rn 294 (2, lv, .inl (0) :: st, w) := q_iconst (jd_of jb_294 dX9_dance_1)
theorem p294_2 (lv : jmL) (st : List jmV) (w : jmW) (a : Nat) (x : Int) : rn 294 (2, lv, .inl x :: jvr a :: st, w) = jq_gs (mS w a) (1, 9, 0) 294 5 lv (st) (setI w a 0 x) := q_putf (jd_of jb_294 dX9_dance_2) jo_294 jk_9_54 (Or.inl rfl) rfl
theorem p294_5 (lv : jmL) (st : List jmV) (w : jmW) : rn 294 (5, lv, st, w) = jq_lda 294 6 lv st w (jg lv 0) := q_aload_n (jd_of jb_294 dX9_dance_5) rfl
theorem p294_6 (lv : jmL) (st : List jmV) (w : jmW) (a : Nat) : rn 294 (6, lv, jvr a :: st, w) = jq_gs (mS w a) (1, 9, 0) 294 9 lv (.inr (.inr (mR w a 3)) :: st) (w) := q_getf (v := fun w a => .inr (.inr (mR w a 3))) (jd_of jb_294 dX9_dance_6) jo_294 jk_9_389 (fun _ _ => rfl)
theorem p294_9n (lv : jmL) (st : List jmV) (w : jmW) : rn 294 (9, lv, .inr (.inr none) :: st, w) = rn 294 (12, lv, st, w) := q_ifnonnull_n (tgt := 18) (jd_of jb_294 dX9_dance_9) (by decide)
theorem p294_9s (lv : jmL) (st : List jmV) (w : jmW) (a : Nat) : rn 294 (9, lv, .inr (.inr (some a)) :: st, w) = rn 294 (18, lv, st, w) := q_ifnonnull_s (tgt := 18) (jd_of jb_294 dX9_dance_9) (by decide)
theorem p294_12 (lv : jmL) (st : List jmV) (w : jmW) : rn 294 (12, lv, st, w) = jq_lda 294 13 lv st w (jg lv 0) := q_aload_n (jd_of jb_294 dX9_dance_12) rfl
theorem p294_13 (lv : jmL) (st : List jmV) (w : jmW) : rn 294 (13, lv, st, w) = rn 294 (14, lv, .inl (1) :: st, w) := q_iconst (jd_of jb_294 dX9_dance_13)
theorem p294_14 (lv : jmL) (st : List jmV) (w : jmW) (b : Nat) (x1 : Int) : rn 294 (14, lv, .inl x1 :: jvr b :: st, w) = jq_s (mS w b) (1, 9, 0) (jq_b (decide (jwd st ≤ 8)) (jq_c 294 17 lv st (rn 176 (0, [(0, jvr b), (1, .inl x1)], [], w)))) := q_callv (as := [.inl x1]) (rest := st) (jd_of jb_294 dX9_dance_14) jo_294 jk_9_60 rfl rfl rfl jo_176 jf_294_176 (Nat.le_of_ble_eq_true rfl)
theorem p294_17 (lv : jmL) (w : jmW) (x : Int) : rn 294 (17, lv, [.inl x], w) = some (some (.inl x), w) := q_ireturn (jd_of jb_294 dX9_dance_17) jr_294
theorem p294_18 (lv : jmL) (st : List jmV) (w : jmW) : rn 294 (18, lv, st, w) = jq_ldi 294 19 lv st w (jg lv 1) := q_iload_n (jd_of jb_294 dX9_dance_18) rfl
theorem p294_19 (lv : jmL) (st : List jmV) (w : jmW) : rn 294 (19, lv, st, w) = rn 294 (20, lv, .inl (1) :: st, w) := q_iconst (jd_of jb_294 dX9_dance_19)
theorem p294_20 (lv : jmL) (st : List jmV) (w : jmW) : rn 294 (20, lv, st, w) = rn 294 (22, lv, .inl (20) :: st, w) := q_bipush (jd_of jb_294 dX9_dance_20) (by decide +kernel)
theorem p294_22 (lv : jmL) (st : List jmV) (w : jmW) (x1 : Int) (x2 : Int) (x3 : Int) : rn 294 (22, lv, .inl x3 :: .inl x2 :: .inl x1 :: st, w) = jq_b (decide (jwd st ≤ 8)) (jq_c 294 25 lv st (rn 192 (0, [(0, .inl x1), (1, .inl x2), (2, .inl x3)], [], w))) := q_calls (as := [.inl x1, .inl x2, .inl x3]) (rest := st) (jd_of jb_294 dX9_dance_22) jo_294 jk_9_135 rfl rfl rfl jf_294_192 (Nat.le_of_ble_eq_true rfl)
theorem p294_25 (lv : jmL) (st : List jmV) (w : jmW) (x : Int) : rn 294 (25, lv, .inl x :: st, w) = if jw x = 0 then rn 294 (28, lv, st, w) else rn 294 (34, lv, st, w) := q_if_ne (jd_of jb_294 dX9_dance_25) (by decide)
theorem p294_28 (lv : jmL) (st : List jmV) (w : jmW) : rn 294 (28, lv, st, w) = jq_lda 294 29 lv st w (jg lv 0) := q_aload_n (jd_of jb_294 dX9_dance_28) rfl
theorem p294_29 (lv : jmL) (st : List jmV) (w : jmW) : rn 294 (29, lv, st, w) = rn 294 (30, lv, .inl (2) :: st, w) := q_iconst (jd_of jb_294 dX9_dance_29)
theorem p294_30 (lv : jmL) (st : List jmV) (w : jmW) (b : Nat) (x1 : Int) : rn 294 (30, lv, .inl x1 :: jvr b :: st, w) = jq_s (mS w b) (1, 9, 0) (jq_b (decide (jwd st ≤ 8)) (jq_c 294 33 lv st (rn 176 (0, [(0, jvr b), (1, .inl x1)], [], w)))) := q_callv (as := [.inl x1]) (rest := st) (jd_of jb_294 dX9_dance_30) jo_294 jk_9_60 rfl rfl rfl jo_176 jf_294_176 (Nat.le_of_ble_eq_true rfl)
theorem p294_33 (lv : jmL) (w : jmW) (x : Int) : rn 294 (33, lv, [.inl x], w) = some (some (.inl x), w) := q_ireturn (jd_of jb_294 dX9_dance_33) jr_294
theorem p294_34 (lv : jmL) (st : List jmV) (w : jmW) : rn 294 (34, lv, st, w) = jq_lda 294 35 lv st w (jg lv 0) := q_aload_n (jd_of jb_294 dX9_dance_34) rfl
theorem p294_35 (lv : jmL) (st : List jmV) (w : jmW) (a : Nat) : rn 294 (35, lv, jvr a :: st, w) = jq_gs (mS w a) (1, 9, 0) 294 38 lv (.inr (.inr (mR w a 18)) :: st) (w) := q_getf (v := fun w a => .inr (.inr (mR w a 18))) (jd_of jb_294 dX9_dance_35) jo_294 jk_9_21 (fun _ _ => rfl)
theorem p294_38 (lv : jmL) (st : List jmV) (w : jmW) (x1 : Option Nat) : rn 294 (38, lv, .inr (.inr x1) :: st, w) = jq_b (decide (jwd st ≤ 8)) (jq_c 294 41 lv st (rn 232 (0, [(0, .inr (.inr x1))], [], w))) := q_calls (as := [.inr (.inr x1)]) (rest := st) (jd_of jb_294 dX9_dance_38) jo_294 jk_9_477 rfl rfl rfl jf_294_232 (Nat.le_of_ble_eq_true rfl)
theorem p294_41 (lv : jmL) (st : List jmV) (w : jmW) (x : Int) : rn 294 (41, lv, .inl x :: st, w) = if 0 < jw x then rn 294 (44, lv, st, w) else rn 294 (50, lv, st, w) := q_if_le (jd_of jb_294 dX9_dance_41) (by decide)
theorem p294_44 (lv : jmL) (st : List jmV) (w : jmW) : rn 294 (44, lv, st, w) = jq_lda 294 45 lv st w (jg lv 0) := q_aload_n (jd_of jb_294 dX9_dance_44) rfl
theorem p294_45 (lv : jmL) (st : List jmV) (w : jmW) : rn 294 (45, lv, st, w) = rn 294 (46, lv, .inl (5) :: st, w) := q_iconst (jd_of jb_294 dX9_dance_45)
theorem p294_46 (lv : jmL) (st : List jmV) (w : jmW) (b : Nat) (x1 : Int) : rn 294 (46, lv, .inl x1 :: jvr b :: st, w) = jq_s (mS w b) (1, 9, 0) (jq_b (decide (jwd st ≤ 8)) (jq_c 294 49 lv st (rn 176 (0, [(0, jvr b), (1, .inl x1)], [], w)))) := q_callv (as := [.inl x1]) (rest := st) (jd_of jb_294 dX9_dance_46) jo_294 jk_9_60 rfl rfl rfl jo_176 jf_294_176 (Nat.le_of_ble_eq_true rfl)
theorem p294_49 (lv : jmL) (w : jmW) (x : Int) : rn 294 (49, lv, [.inl x], w) = some (some (.inl x), w) := q_ireturn (jd_of jb_294 dX9_dance_49) jr_294
theorem p294_50 (lv : jmL) (st : List jmV) (w : jmW) : rn 294 (50, lv, st, w) = jq_lda 294 51 lv st w (jg lv 0) := q_aload_n (jd_of jb_294 dX9_dance_50) rfl
theorem p294_51 (lv : jmL) (st : List jmV) (w : jmW) (b : Nat) : rn 294 (51, lv, jvr b :: st, w) = jq_s (mS w b) (1, 9, 0) (jq_b (decide (jwd st ≤ 8)) (jq_c 294 54 lv st (rn 295 (0, [(0, jvr b)], [], w)))) := q_callv (as := []) (rest := st) (jd_of jb_294 dX9_dance_51) jo_294 jk_9_582 rfl rfl rfl jo_295 jf_294_295 (Nat.le_of_ble_eq_true rfl)
theorem p294_54 (lv : jmL) (st : List jmV) (w : jmW) : rn 294 (54, lv, st, w) = jq_lda 294 55 lv st w (jg lv 0) := q_aload_n (jd_of jb_294 dX9_dance_54) rfl
theorem p294_55 (lv : jmL) (st : List jmV) (w : jmW) (b : Nat) : rn 294 (55, lv, jvr b :: st, w) = jq_s (mS w b) (1, 9, 0) (jq_b (decide (jwd st ≤ 8)) (jq_c 294 58 lv st (rn 237 (0, [(0, jvr b)], [], w)))) := q_callv (as := []) (rest := st) (jd_of jb_294 dX9_dance_55) jo_294 jk_9_501 rfl rfl rfl jo_237 jf_294_237 (Nat.le_of_ble_eq_true rfl)
theorem p294_58 (lv : jmL) (st : List jmV) (w : jmW) : rn 294 (58, lv, st, w) = rn 294 (59, lv, .inl (0) :: st, w) := q_iconst (jd_of jb_294 dX9_dance_58)
theorem p294_59 (lv : jmL) (st : List jmV) (w : jmW) (x : Int) : rn 294 (59, lv, .inl x :: st, w) = rn 294 (60, js lv 2 (.inl x), st, w) := q_istore_n (jd_of jb_294 dX9_dance_59) rfl (by rw [jm_294]; decide)
theorem p294_60 (lv : jmL) (st : List jmV) (w : jmW) : rn 294 (60, lv, st, w) = jq_ldi 294 61 lv st w (jg lv 2) := q_iload_n (jd_of jb_294 dX9_dance_60) rfl
theorem p294_61 (lv : jmL) (st : List jmV) (w : jmW) : rn 294 (61, lv, st, w) = jq_ldi 294 62 lv st w (jg lv 1) := q_iload_n (jd_of jb_294 dX9_dance_61) rfl
theorem p294_62 (lv : jmL) (st : List jmV) (w : jmW) (x y : Int) : rn 294 (62, lv, .inl y :: .inl x :: st, w) = if jw x < jw y then rn 294 (65, lv, st, w) else rn 294 (80, lv, st, w) := q_icmp_ge (jd_of jb_294 dX9_dance_62) (by decide)
theorem p294_65 (lv : jmL) (st : List jmV) (w : jmW) : rn 294 (65, lv, st, w) = jq_lda 294 66 lv st w (jg lv 0) := q_aload_n (jd_of jb_294 dX9_dance_65) rfl
theorem p294_66 (lv : jmL) (st : List jmV) (w : jmW) : rn 294 (66, lv, st, w) = jq_lda 294 67 lv st w (jg lv 0) := q_aload_n (jd_of jb_294 dX9_dance_66) rfl
theorem p294_67 (lv : jmL) (st : List jmV) (w : jmW) (a : Nat) : rn 294 (67, lv, jvr a :: st, w) = jq_gs (mS w a) (1, 9, 0) 294 70 lv (.inr (.inr (mR w a 18)) :: st) (w) := q_getf (v := fun w a => .inr (.inr (mR w a 18))) (jd_of jb_294 dX9_dance_67) jo_294 jk_9_21 (fun _ _ => rfl)
theorem p294_70 (lv : jmL) (st : List jmV) (w : jmW) : rn 294 (70, lv, st, w) = rn 294 (71, lv, .inl (0) :: st, w) := q_iconst (jd_of jb_294 dX9_dance_70)
theorem p294_71 (lv : jmL) (st : List jmV) (w : jmW) (b : Nat) (x1 : Option Nat) (x2 : Int) : rn 294 (71, lv, .inl x2 :: .inr (.inr x1) :: jvr b :: st, w) = jq_s (mS w b) (1, 9, 0) (jq_b (decide (jwd st ≤ 8)) (jq_c 294 74 lv st (rn 238 (0, [(0, jvr b), (1, .inr (.inr x1)), (2, .inl x2)], [], w)))) := q_callv (as := [.inr (.inr x1), .inl x2]) (rest := st) (jd_of jb_294 dX9_dance_71) jo_294 jk_9_504 rfl rfl rfl jo_238 jf_294_238 (Nat.le_of_ble_eq_true rfl)
theorem p294_74 (lv : jmL) (st : List jmV) (w : jmW) : rn 294 (74, lv, st, w) = jq_inc 294 77 lv 2 (1) st w (jg lv 2) := q_iinc (jd_of jb_294 dX9_dance_74) (by rw [jm_294]; decide)
theorem p294_77 (lv : jmL) (st : List jmV) (w : jmW) : rn 294 (77, lv, st, w) = rn 294 (60, lv, st, w) := q_goto (jd_of jb_294 dX9_dance_77) (by decide)
theorem p294_80 (lv : jmL) (st : List jmV) (w : jmW) : rn 294 (80, lv, st, w) = jq_lda 294 81 lv st w (jg lv 0) := q_aload_n (jd_of jb_294 dX9_dance_80) rfl
theorem p294_81 (lv : jmL) (st : List jmV) (w : jmW) : rn 294 (81, lv, st, w) = jq_lda 294 82 lv st w (jg lv 0) := q_aload_n (jd_of jb_294 dX9_dance_81) rfl
theorem p294_82 (lv : jmL) (st : List jmV) (w : jmW) (a : Nat) : rn 294 (82, lv, jvr a :: st, w) = jq_gs (mS w a) (1, 9, 0) 294 85 lv (.inr (.inr (mR w a 18)) :: st) (w) := q_getf (v := fun w a => .inr (.inr (mR w a 18))) (jd_of jb_294 dX9_dance_82) jo_294 jk_9_21 (fun _ _ => rfl)
theorem p294_85 (lv : jmL) (st : List jmV) (w : jmW) : rn 294 (85, lv, st, w) = rn 294 (88, lv, .inl (289) :: st, w) := q_sipush (jd_of jb_294 dX9_dance_85) (by decide +kernel)
theorem p294_88 (lv : jmL) (st : List jmV) (w : jmW) (a : Nat) (j : Int) : rn 294 (88, lv, .inl j :: jvr a :: st, w) = jq_gr (mS w a) 0 j 294 89 lv (.inl (mI w a (jix j)) :: st) (w) := q_iald (jd_of jb_294 dX9_dance_88)
theorem p294_89 (lv : jmL) (st : List jmV) (w : jmW) (b : Nat) (x1 : Int) : rn 294 (89, lv, .inl x1 :: jvr b :: st, w) = jq_s (mS w b) (1, 9, 0) (jq_b (decide (jwd st ≤ 8)) (jq_c 294 92 lv st (rn 213 (0, [(0, jvr b), (1, .inl x1)], [], w)))) := q_callv (as := [.inl x1]) (rest := st) (jd_of jb_294 dX9_dance_89) jo_294 jk_9_64 rfl rfl rfl jo_213 jf_294_213 (Nat.le_of_ble_eq_true rfl)
theorem p294_92 (lv : jmL) (w : jmW) (x : Int) : rn 294 (92, lv, [.inl x], w) = some (some (.inl x), w) := q_ireturn (jd_of jb_294 dX9_dance_92) jr_294
theorem p295_0 (lv : jmL) (st : List jmV) (w : jmW) : rn 295 (0, lv, st, w) = jq_lda 295 1 lv st w (jg lv 0) := q_aload_n (jd_of jb_295 dX9_keeps_0) rfl
theorem p295_1 (lv : jmL) (st : List jmV) (w : jmW) (a : Nat) : rn 295 (1, lv, jvr a :: st, w) = jq_gs (mS w a) (1, 9, 0) 295 4 lv (.inl (mI w a 22) :: st) (w) := q_getf (v := fun w a => .inl (mI w a 22)) (jd_of jb_295 dX9_keeps_1) jo_295 jk_9_395 (fun _ _ => rfl)
theorem p295_4 (lv : jmL) (st : List jmV) (w : jmW) : rn 295 (4, lv, st, w) = rn 295 (6, lv, .inl (10) :: st, w) := q_bipush (jd_of jb_295 dX9_keeps_4) (by decide +kernel)
theorem p295_6 (lv : jmL) (st : List jmV) (w : jmW) (x y : Int) : rn 295 (6, lv, .inl y :: .inl x :: st, w) = if jw x = jw y then rn 295 (9, lv, st, w) else rn 295 (50, lv, st, w) := q_icmp_ne (jd_of jb_295 dX9_keeps_6) (by decide)
theorem p295_9 (lv : jmL) (st : List jmV) (w : jmW) : rn 295 (9, lv, st, w) = rn 295 (10, lv, .inl (0) :: st, w) := q_iconst (jd_of jb_295 dX9_keeps_9)
theorem p295_10 (lv : jmL) (st : List jmV) (w : jmW) (x : Int) : rn 295 (10, lv, .inl x :: st, w) = rn 295 (11, js lv 1 (.inl x), st, w) := q_istore_n (jd_of jb_295 dX9_keeps_10) rfl (by rw [jm_295]; decide)
theorem p295_11 (lv : jmL) (st : List jmV) (w : jmW) : rn 295 (11, lv, st, w) = jq_ldi 295 12 lv st w (jg lv 1) := q_iload_n (jd_of jb_295 dX9_keeps_11) rfl
theorem p295_12 (lv : jmL) (st : List jmV) (w : jmW) : rn 295 (12, lv, st, w) = rn 295 (15, lv, .inl (2682) :: st, w) := q_sipush (jd_of jb_295 dX9_keeps_12) (by decide +kernel)
theorem p295_15 (lv : jmL) (st : List jmV) (w : jmW) (x y : Int) : rn 295 (15, lv, .inl y :: .inl x :: st, w) = if jw x < jw y then rn 295 (18, lv, st, w) else rn 295 (40, lv, st, w) := q_icmp_ge (jd_of jb_295 dX9_keeps_15) (by decide)
theorem p295_18 (lv : jmL) (st : List jmV) (w : jmW) : rn 295 (18, lv, st, w) = jq_lda 295 19 lv st w (jg lv 0) := q_aload_n (jd_of jb_295 dX9_keeps_18) rfl
theorem p295_19 (lv : jmL) (st : List jmV) (w : jmW) (a : Nat) : rn 295 (19, lv, jvr a :: st, w) = jq_gs (mS w a) (1, 9, 0) 295 22 lv (.inr (.inr (mR w a 20)) :: st) (w) := q_getf (v := fun w a => .inr (.inr (mR w a 20))) (jd_of jb_295 dX9_keeps_19) jo_295 jk_9_27 (fun _ _ => rfl)
theorem p295_22 (lv : jmL) (st : List jmV) (w : jmW) : rn 295 (22, lv, st, w) = jq_ldi 295 23 lv st w (jg lv 1) := q_iload_n (jd_of jb_295 dX9_keeps_22) rfl
theorem p295_23 (lv : jmL) (st : List jmV) (w : jmW) : rn 295 (23, lv, st, w) = jq_lda 295 24 lv st w (jg lv 0) := q_aload_n (jd_of jb_295 dX9_keeps_23) rfl
theorem p295_24 (lv : jmL) (st : List jmV) (w : jmW) (a : Nat) : rn 295 (24, lv, jvr a :: st, w) = jq_gs (mS w a) (1, 9, 0) 295 27 lv (.inr (.inr (mR w a 20)) :: st) (w) := q_getf (v := fun w a => .inr (.inr (mR w a 20))) (jd_of jb_295 dX9_keeps_24) jo_295 jk_9_27 (fun _ _ => rfl)
theorem p295_27 (lv : jmL) (st : List jmV) (w : jmW) : rn 295 (27, lv, st, w) = jq_ldi 295 28 lv st w (jg lv 1) := q_iload_n (jd_of jb_295 dX9_keeps_27) rfl
theorem p295_28 (lv : jmL) (st : List jmV) (w : jmW) : rn 295 (28, lv, st, w) = rn 295 (31, lv, .inl (298) :: st, w) := q_sipush (jd_of jb_295 dX9_keeps_28) (by decide +kernel)
theorem p295_31 (lv : jmL) (st : List jmV) (w : jmW) (x y : Int) : rn 295 (31, lv, .inl y :: .inl x :: st, w) = rn 295 (32, lv, .inl (x + y) :: st, w) := q_iadd (jd_of jb_295 dX9_keeps_31)
theorem p295_32 (lv : jmL) (st : List jmV) (w : jmW) (a : Nat) (j : Int) : rn 295 (32, lv, .inl j :: jvr a :: st, w) = jq_gr (mS w a) 0 j 295 33 lv (.inl (mI w a (jix j)) :: st) (w) := q_iald (jd_of jb_295 dX9_keeps_32)
theorem p295_33 (lv : jmL) (st : List jmV) (w : jmW) (a : Nat) (j x : Int) : rn 295 (33, lv, .inl x :: .inl j :: jvr a :: st, w) = jq_gw (mS w a) 0 j 295 34 lv (st) (setI w a (jix j) x) := q_iast (jd_of jb_295 dX9_keeps_33)
theorem p295_34 (lv : jmL) (st : List jmV) (w : jmW) : rn 295 (34, lv, st, w) = jq_inc 295 37 lv 1 (1) st w (jg lv 1) := q_iinc (jd_of jb_295 dX9_keeps_34) (by rw [jm_295]; decide)
theorem p295_37 (lv : jmL) (st : List jmV) (w : jmW) : rn 295 (37, lv, st, w) = rn 295 (11, lv, st, w) := q_goto (jd_of jb_295 dX9_keeps_37) (by decide)
theorem p295_40 (lv : jmL) (st : List jmV) (w : jmW) : rn 295 (40, lv, st, w) = jq_lda 295 41 lv st w (jg lv 0) := q_aload_n (jd_of jb_295 dX9_keeps_40) rfl
theorem p295_41i (lv : jmL) (st : List jmV) (w : jmW) (x : Int) : rn 295 (41, lv, .inl x :: st, w) = rn 295 (42, lv, .inl x :: .inl x :: st, w) := q_dup_i (jd_of jb_295 dX9_keeps_41)
theorem p295_41a (lv : jmL) (st : List jmV) (w : jmW) (x : Option Nat) : rn 295 (41, lv, .inr (.inr x) :: st, w) = rn 295 (42, lv, .inr (.inr x) :: .inr (.inr x) :: st, w) := q_dup_a (jd_of jb_295 dX9_keeps_41)
theorem p295_42 (lv : jmL) (st : List jmV) (w : jmW) (a : Nat) : rn 295 (42, lv, jvr a :: st, w) = jq_gs (mS w a) (1, 9, 0) 295 45 lv (.inl (mI w a 22) :: st) (w) := q_getf (v := fun w a => .inl (mI w a 22)) (jd_of jb_295 dX9_keeps_42) jo_295 jk_9_395 (fun _ _ => rfl)
theorem p295_45 (lv : jmL) (st : List jmV) (w : jmW) : rn 295 (45, lv, st, w) = rn 295 (46, lv, .inl (1) :: st, w) := q_iconst (jd_of jb_295 dX9_keeps_45)
theorem p295_46 (lv : jmL) (st : List jmV) (w : jmW) (x y : Int) : rn 295 (46, lv, .inl y :: .inl x :: st, w) = rn 295 (47, lv, .inl (x - y) :: st, w) := q_isub (jd_of jb_295 dX9_keeps_46)
theorem p295_47 (lv : jmL) (st : List jmV) (w : jmW) (a : Nat) (x : Int) : rn 295 (47, lv, .inl x :: jvr a :: st, w) = jq_gs (mS w a) (1, 9, 0) 295 50 lv (st) (setI w a 22 x) := q_putf (jd_of jb_295 dX9_keeps_47) jo_295 jk_9_395 (Or.inl rfl) rfl
theorem p295_50 (lv : jmL) (st : List jmV) (w : jmW) : rn 295 (50, lv, st, w) = rn 295 (51, lv, .inl (0) :: st, w) := q_iconst (jd_of jb_295 dX9_keeps_50)
theorem p295_51 (lv : jmL) (st : List jmV) (w : jmW) (x : Int) : rn 295 (51, lv, .inl x :: st, w) = rn 295 (52, js lv 1 (.inl x), st, w) := q_istore_n (jd_of jb_295 dX9_keeps_51) rfl (by rw [jm_295]; decide)
theorem p295_52 (lv : jmL) (st : List jmV) (w : jmW) : rn 295 (52, lv, st, w) = jq_ldi 295 53 lv st w (jg lv 1) := q_iload_n (jd_of jb_295 dX9_keeps_52) rfl
theorem p295_53 (lv : jmL) (st : List jmV) (w : jmW) : rn 295 (53, lv, st, w) = rn 295 (56, lv, .inl (298) :: st, w) := q_sipush (jd_of jb_295 dX9_keeps_53) (by decide +kernel)
theorem p295_56 (lv : jmL) (st : List jmV) (w : jmW) (x y : Int) : rn 295 (56, lv, .inl y :: .inl x :: st, w) = if jw x < jw y then rn 295 (59, lv, st, w) else rn 295 (86, lv, st, w) := q_icmp_ge (jd_of jb_295 dX9_keeps_56) (by decide)
theorem p295_59 (lv : jmL) (st : List jmV) (w : jmW) : rn 295 (59, lv, st, w) = jq_lda 295 60 lv st w (jg lv 0) := q_aload_n (jd_of jb_295 dX9_keeps_59) rfl
theorem p295_60 (lv : jmL) (st : List jmV) (w : jmW) (a : Nat) : rn 295 (60, lv, jvr a :: st, w) = jq_gs (mS w a) (1, 9, 0) 295 63 lv (.inr (.inr (mR w a 20)) :: st) (w) := q_getf (v := fun w a => .inr (.inr (mR w a 20))) (jd_of jb_295 dX9_keeps_60) jo_295 jk_9_27 (fun _ _ => rfl)
theorem p295_63 (lv : jmL) (st : List jmV) (w : jmW) : rn 295 (63, lv, st, w) = rn 295 (66, lv, .inl (298) :: st, w) := q_sipush (jd_of jb_295 dX9_keeps_63) (by decide +kernel)
theorem p295_66 (lv : jmL) (st : List jmV) (w : jmW) : rn 295 (66, lv, st, w) = jq_lda 295 67 lv st w (jg lv 0) := q_aload_n (jd_of jb_295 dX9_keeps_66) rfl
theorem p295_67 (lv : jmL) (st : List jmV) (w : jmW) (a : Nat) : rn 295 (67, lv, jvr a :: st, w) = jq_gs (mS w a) (1, 9, 0) 295 70 lv (.inl (mI w a 22) :: st) (w) := q_getf (v := fun w a => .inl (mI w a 22)) (jd_of jb_295 dX9_keeps_67) jo_295 jk_9_395 (fun _ _ => rfl)
theorem p295_70 (lv : jmL) (st : List jmV) (w : jmW) (x y : Int) : rn 295 (70, lv, .inl y :: .inl x :: st, w) = rn 295 (71, lv, .inl (x * y) :: st, w) := q_imul (jd_of jb_295 dX9_keeps_70)
theorem p295_71 (lv : jmL) (st : List jmV) (w : jmW) : rn 295 (71, lv, st, w) = jq_ldi 295 72 lv st w (jg lv 1) := q_iload_n (jd_of jb_295 dX9_keeps_71) rfl
theorem p295_72 (lv : jmL) (st : List jmV) (w : jmW) (x y : Int) : rn 295 (72, lv, .inl y :: .inl x :: st, w) = rn 295 (73, lv, .inl (x + y) :: st, w) := q_iadd (jd_of jb_295 dX9_keeps_72)
theorem p295_73 (lv : jmL) (st : List jmV) (w : jmW) : rn 295 (73, lv, st, w) = jq_lda 295 74 lv st w (jg lv 0) := q_aload_n (jd_of jb_295 dX9_keeps_73) rfl
theorem p295_74 (lv : jmL) (st : List jmV) (w : jmW) (a : Nat) : rn 295 (74, lv, jvr a :: st, w) = jq_gs (mS w a) (1, 9, 0) 295 77 lv (.inr (.inr (mR w a 18)) :: st) (w) := q_getf (v := fun w a => .inr (.inr (mR w a 18))) (jd_of jb_295 dX9_keeps_74) jo_295 jk_9_21 (fun _ _ => rfl)
theorem p295_77 (lv : jmL) (st : List jmV) (w : jmW) : rn 295 (77, lv, st, w) = jq_ldi 295 78 lv st w (jg lv 1) := q_iload_n (jd_of jb_295 dX9_keeps_77) rfl
theorem p295_78 (lv : jmL) (st : List jmV) (w : jmW) (a : Nat) (j : Int) : rn 295 (78, lv, .inl j :: jvr a :: st, w) = jq_gr (mS w a) 0 j 295 79 lv (.inl (mI w a (jix j)) :: st) (w) := q_iald (jd_of jb_295 dX9_keeps_78)
theorem p295_79 (lv : jmL) (st : List jmV) (w : jmW) (a : Nat) (j x : Int) : rn 295 (79, lv, .inl x :: .inl j :: jvr a :: st, w) = jq_gw (mS w a) 0 j 295 80 lv (st) (setI w a (jix j) x) := q_iast (jd_of jb_295 dX9_keeps_79)
theorem p295_80 (lv : jmL) (st : List jmV) (w : jmW) : rn 295 (80, lv, st, w) = jq_inc 295 83 lv 1 (1) st w (jg lv 1) := q_iinc (jd_of jb_295 dX9_keeps_80) (by rw [jm_295]; decide)
theorem p295_83 (lv : jmL) (st : List jmV) (w : jmW) : rn 295 (83, lv, st, w) = rn 295 (52, lv, st, w) := q_goto (jd_of jb_295 dX9_keeps_83) (by decide)
theorem p295_86 (lv : jmL) (st : List jmV) (w : jmW) : rn 295 (86, lv, st, w) = jq_lda 295 87 lv st w (jg lv 0) := q_aload_n (jd_of jb_295 dX9_keeps_86) rfl
theorem p295_87i (lv : jmL) (st : List jmV) (w : jmW) (x : Int) : rn 295 (87, lv, .inl x :: st, w) = rn 295 (88, lv, .inl x :: .inl x :: st, w) := q_dup_i (jd_of jb_295 dX9_keeps_87)
theorem p295_87a (lv : jmL) (st : List jmV) (w : jmW) (x : Option Nat) : rn 295 (87, lv, .inr (.inr x) :: st, w) = rn 295 (88, lv, .inr (.inr x) :: .inr (.inr x) :: st, w) := q_dup_a (jd_of jb_295 dX9_keeps_87)
theorem p295_88 (lv : jmL) (st : List jmV) (w : jmW) (a : Nat) : rn 295 (88, lv, jvr a :: st, w) = jq_gs (mS w a) (1, 9, 0) 295 91 lv (.inl (mI w a 22) :: st) (w) := q_getf (v := fun w a => .inl (mI w a 22)) (jd_of jb_295 dX9_keeps_88) jo_295 jk_9_395 (fun _ _ => rfl)
theorem p295_91 (lv : jmL) (st : List jmV) (w : jmW) : rn 295 (91, lv, st, w) = rn 295 (92, lv, .inl (1) :: st, w) := q_iconst (jd_of jb_295 dX9_keeps_91)
theorem p295_92 (lv : jmL) (st : List jmV) (w : jmW) (x y : Int) : rn 295 (92, lv, .inl y :: .inl x :: st, w) = rn 295 (93, lv, .inl (x + y) :: st, w) := q_iadd (jd_of jb_295 dX9_keeps_92)
theorem p295_93 (lv : jmL) (st : List jmV) (w : jmW) (a : Nat) (x : Int) : rn 295 (93, lv, .inl x :: jvr a :: st, w) = jq_gs (mS w a) (1, 9, 0) 295 96 lv (st) (setI w a 22 x) := q_putf (jd_of jb_295 dX9_keeps_93) jo_295 jk_9_395 (Or.inl rfl) rfl
theorem p295_96 (lv : jmL) (w : jmW) : rn 295 (96, lv, [], w) = some (none, w) := q_return (jd_of jb_295 dX9_keeps_96) jr_295
theorem p296_0 (lv : jmL) (st : List jmV) (w : jmW) : rn 296 (0, lv, st, w) = jq_lda 296 1 lv st w (jg lv 0) := q_aload_n (jd_of jb_296 dX9_lead_0) rfl
theorem p296_1 (lv : jmL) (st : List jmV) (w : jmW) : rn 296 (1, lv, st, w) = rn 296 (2, lv, .inl (0) :: st, w) := q_iconst (jd_of jb_296 dX9_lead_1)
theorem p296_2 (lv : jmL) (st : List jmV) (w : jmW) (a : Nat) (x : Int) : rn 296 (2, lv, .inl x :: jvr a :: st, w) = jq_gs (mS w a) (1, 9, 0) 296 5 lv (st) (setI w a 0 x) := q_putf (jd_of jb_296 dX9_lead_2) jo_296 jk_9_54 (Or.inl rfl) rfl
theorem p296_5 (lv : jmL) (st : List jmV) (w : jmW) : rn 296 (5, lv, st, w) = jq_lda 296 6 lv st w (jg lv 0) := q_aload_n (jd_of jb_296 dX9_lead_5) rfl
theorem p296_6 (lv : jmL) (st : List jmV) (w : jmW) (a : Nat) : rn 296 (6, lv, jvr a :: st, w) = jq_gs (mS w a) (1, 9, 0) 296 9 lv (.inr (.inr (mR w a 3)) :: st) (w) := q_getf (v := fun w a => .inr (.inr (mR w a 3))) (jd_of jb_296 dX9_lead_6) jo_296 jk_9_389 (fun _ _ => rfl)
theorem p296_9n (lv : jmL) (st : List jmV) (w : jmW) : rn 296 (9, lv, .inr (.inr none) :: st, w) = rn 296 (21, lv, st, w) := q_ifnull_n (tgt := 21) (jd_of jb_296 dX9_lead_9) (by decide)
theorem p296_9s (lv : jmL) (st : List jmV) (w : jmW) (a : Nat) : rn 296 (9, lv, .inr (.inr (some a)) :: st, w) = rn 296 (12, lv, st, w) := q_ifnull_s (tgt := 21) (jd_of jb_296 dX9_lead_9) (by decide)
theorem p296_12 (lv : jmL) (st : List jmV) (w : jmW) : rn 296 (12, lv, st, w) = jq_ldi 296 13 lv st w (jg lv 1) := q_iload_n (jd_of jb_296 dX9_lead_12) rfl
theorem p296_13 (lv : jmL) (st : List jmV) (w : jmW) : rn 296 (13, lv, st, w) = rn 296 (14, lv, .inl (0) :: st, w) := q_iconst (jd_of jb_296 dX9_lead_13)
theorem p296_14 (lv : jmL) (st : List jmV) (w : jmW) : rn 296 (14, lv, st, w) = rn 296 (15, lv, .inl (4) :: st, w) := q_iconst (jd_of jb_296 dX9_lead_14)
theorem p296_15 (lv : jmL) (st : List jmV) (w : jmW) (x1 : Int) (x2 : Int) (x3 : Int) : rn 296 (15, lv, .inl x3 :: .inl x2 :: .inl x1 :: st, w) = jq_b (decide (jwd st ≤ 8)) (jq_c 296 18 lv st (rn 192 (0, [(0, .inl x1), (1, .inl x2), (2, .inl x3)], [], w))) := q_calls (as := [.inl x1, .inl x2, .inl x3]) (rest := st) (jd_of jb_296 dX9_lead_15) jo_296 jk_9_135 rfl rfl rfl jf_296_192 (Nat.le_of_ble_eq_true rfl)
theorem p296_18 (lv : jmL) (st : List jmV) (w : jmW) (x : Int) : rn 296 (18, lv, .inl x :: st, w) = if jw x = 0 then rn 296 (21, lv, st, w) else rn 296 (27, lv, st, w) := q_if_ne (jd_of jb_296 dX9_lead_18) (by decide)
theorem p296_21 (lv : jmL) (st : List jmV) (w : jmW) : rn 296 (21, lv, st, w) = jq_lda 296 22 lv st w (jg lv 0) := q_aload_n (jd_of jb_296 dX9_lead_21) rfl
theorem p296_22 (lv : jmL) (st : List jmV) (w : jmW) : rn 296 (22, lv, st, w) = rn 296 (23, lv, .inl (1) :: st, w) := q_iconst (jd_of jb_296 dX9_lead_22)
theorem p296_23 (lv : jmL) (st : List jmV) (w : jmW) (b : Nat) (x1 : Int) : rn 296 (23, lv, .inl x1 :: jvr b :: st, w) = jq_s (mS w b) (1, 9, 0) (jq_b (decide (jwd st ≤ 8)) (jq_c 296 26 lv st (rn 297 (0, [(0, jvr b), (1, .inl x1)], [], w)))) := q_callv (as := [.inl x1]) (rest := st) (jd_of jb_296 dX9_lead_23) jo_296 jk_9_585 rfl rfl rfl jo_297 jf_296_297 (Nat.le_of_ble_eq_true rfl)
theorem p296_26 (lv : jmL) (w : jmW) (x : Int) : rn 296 (26, lv, [.inl x], w) = jq_b (decide (x = 0 ∨ x = 1)) (some (some (.inl x), w)) := q_zreturn (jd_of jb_296 dX9_lead_26) jr_296
theorem p296_27 (lv : jmL) (st : List jmV) (w : jmW) : rn 296 (27, lv, st, w) = jq_lda 296 28 lv st w (jg lv 0) := q_aload_n (jd_of jb_296 dX9_lead_27) rfl
theorem p296_28 (lv : jmL) (st : List jmV) (w : jmW) (a : Nat) : rn 296 (28, lv, jvr a :: st, w) = jq_gs (mS w a) (1, 9, 0) 296 31 lv (.inr (.inr (mR w a 18)) :: st) (w) := q_getf (v := fun w a => .inr (.inr (mR w a 18))) (jd_of jb_296 dX9_lead_28) jo_296 jk_9_21 (fun _ _ => rfl)
theorem p296_31 (lv : jmL) (st : List jmV) (w : jmW) : rn 296 (31, lv, st, w) = rn 296 (34, lv, .inl (291) :: st, w) := q_sipush (jd_of jb_296 dX9_lead_31) (by decide +kernel)
theorem p296_34 (lv : jmL) (st : List jmV) (w : jmW) (a : Nat) (j : Int) : rn 296 (34, lv, .inl j :: jvr a :: st, w) = jq_gr (mS w a) 0 j 296 35 lv (.inl (mI w a (jix j)) :: st) (w) := q_iald (jd_of jb_296 dX9_lead_34)
theorem p296_35 (lv : jmL) (st : List jmV) (w : jmW) : rn 296 (35, lv, st, w) = jq_ldi 296 36 lv st w (jg lv 1) := q_iload_n (jd_of jb_296 dX9_lead_35) rfl
theorem p296_36 (lv : jmL) (st : List jmV) (w : jmW) (x y : Int) : rn 296 (36, lv, .inl y :: .inl x :: st, w) = if jw x = jw y then rn 296 (39, lv, st, w) else rn 296 (45, lv, st, w) := q_icmp_ne (jd_of jb_296 dX9_lead_36) (by decide)
theorem p296_39 (lv : jmL) (st : List jmV) (w : jmW) : rn 296 (39, lv, st, w) = jq_lda 296 40 lv st w (jg lv 0) := q_aload_n (jd_of jb_296 dX9_lead_39) rfl
theorem p296_40 (lv : jmL) (st : List jmV) (w : jmW) : rn 296 (40, lv, st, w) = rn 296 (41, lv, .inl (5) :: st, w) := q_iconst (jd_of jb_296 dX9_lead_40)
theorem p296_41 (lv : jmL) (st : List jmV) (w : jmW) (b : Nat) (x1 : Int) : rn 296 (41, lv, .inl x1 :: jvr b :: st, w) = jq_s (mS w b) (1, 9, 0) (jq_b (decide (jwd st ≤ 8)) (jq_c 296 44 lv st (rn 297 (0, [(0, jvr b), (1, .inl x1)], [], w)))) := q_callv (as := [.inl x1]) (rest := st) (jd_of jb_296 dX9_lead_41) jo_296 jk_9_585 rfl rfl rfl jo_297 jf_296_297 (Nat.le_of_ble_eq_true rfl)
theorem p296_44 (lv : jmL) (w : jmW) (x : Int) : rn 296 (44, lv, [.inl x], w) = jq_b (decide (x = 0 ∨ x = 1)) (some (some (.inl x), w)) := q_zreturn (jd_of jb_296 dX9_lead_44) jr_296
theorem p296_45 (lv : jmL) (st : List jmV) (w : jmW) : rn 296 (45, lv, st, w) = jq_lda 296 46 lv st w (jg lv 0) := q_aload_n (jd_of jb_296 dX9_lead_45) rfl
theorem p296_46 (lv : jmL) (st : List jmV) (w : jmW) (b : Nat) : rn 296 (46, lv, jvr b :: st, w) = jq_s (mS w b) (1, 9, 0) (jq_b (decide (jwd st ≤ 8)) (jq_c 296 49 lv st (rn 295 (0, [(0, jvr b)], [], w)))) := q_callv (as := []) (rest := st) (jd_of jb_296 dX9_lead_46) jo_296 jk_9_582 rfl rfl rfl jo_295 jf_296_295 (Nat.le_of_ble_eq_true rfl)
theorem p296_49 (lv : jmL) (st : List jmV) (w : jmW) : rn 296 (49, lv, st, w) = jq_lda 296 50 lv st w (jg lv 0) := q_aload_n (jd_of jb_296 dX9_lead_49) rfl
theorem p296_50 (lv : jmL) (st : List jmV) (w : jmW) (a : Nat) : rn 296 (50, lv, jvr a :: st, w) = jq_gs (mS w a) (1, 9, 0) 296 53 lv (.inr (.inr (mR w a 18)) :: st) (w) := q_getf (v := fun w a => .inr (.inr (mR w a 18))) (jd_of jb_296 dX9_lead_50) jo_296 jk_9_21 (fun _ _ => rfl)
theorem p296_53 (lv : jmL) (st : List jmV) (w : jmW) : rn 296 (53, lv, st, w) = rn 296 (56, lv, .inl (291) :: st, w) := q_sipush (jd_of jb_296 dX9_lead_53) (by decide +kernel)
theorem p296_56 (lv : jmL) (st : List jmV) (w : jmW) : rn 296 (56, lv, st, w) = jq_ldi 296 57 lv st w (jg lv 1) := q_iload_n (jd_of jb_296 dX9_lead_56) rfl
theorem p296_57 (lv : jmL) (st : List jmV) (w : jmW) (a : Nat) (j x : Int) : rn 296 (57, lv, .inl x :: .inl j :: jvr a :: st, w) = jq_gw (mS w a) 0 j 296 58 lv (st) (setI w a (jix j) x) := q_iast (jd_of jb_296 dX9_lead_57)
theorem p296_58 (lv : jmL) (st : List jmV) (w : jmW) : rn 296 (58, lv, st, w) = jq_lda 296 59 lv st w (jg lv 0) := q_aload_n (jd_of jb_296 dX9_lead_58) rfl
theorem p296_59 (lv : jmL) (st : List jmV) (w : jmW) (b : Nat) : rn 296 (59, lv, jvr b :: st, w) = jq_s (mS w b) (1, 9, 0) (jq_b (decide (jwd st ≤ 8)) (jq_c 296 62 lv st (rn 298 (0, [(0, jvr b)], [], w)))) := q_callv (as := []) (rest := st) (jd_of jb_296 dX9_lead_59) jo_296 jk_9_588 rfl rfl rfl jo_298 jf_296_298 (Nat.le_of_ble_eq_true rfl)
theorem p296_62 (lv : jmL) (w : jmW) (x : Int) : rn 296 (62, lv, [.inl x], w) = jq_b (decide (x = 0 ∨ x = 1)) (some (some (.inl x), w)) := q_zreturn (jd_of jb_296 dX9_lead_62) jr_296
theorem p297_0 (lv : jmL) (st : List jmV) (w : jmW) : rn 297 (0, lv, st, w) = jq_lda 297 1 lv st w (jg lv 0) := q_aload_n (jd_of jb_297 dX9_denied_0) rfl
theorem p297_1 (lv : jmL) (st : List jmV) (w : jmW) : rn 297 (1, lv, st, w) = jq_ldi 297 2 lv st w (jg lv 1) := q_iload_n (jd_of jb_297 dX9_denied_1) rfl
theorem p297_2 (lv : jmL) (st : List jmV) (w : jmW) (b : Nat) (x1 : Int) : rn 297 (2, lv, .inl x1 :: jvr b :: st, w) = jq_s (mS w b) (1, 9, 0) (jq_b (decide (jwd st ≤ 8)) (jq_c 297 5 lv st (rn 176 (0, [(0, jvr b), (1, .inl x1)], [], w)))) := q_callv (as := [.inl x1]) (rest := st) (jd_of jb_297 dX9_denied_2) jo_297 jk_9_60 rfl rfl rfl jo_176 jf_297_176 (Nat.le_of_ble_eq_true rfl)
theorem p297_5 (lv : jmL) (st : List jmV) (w : jmW) (x : Int) : rn 297 (5, lv, .inl x :: st, w) = rn 297 (6, lv, st, w) := q_pop (jd_of jb_297 dX9_denied_5)
theorem p297_6 (lv : jmL) (st : List jmV) (w : jmW) : rn 297 (6, lv, st, w) = rn 297 (7, lv, .inl (0) :: st, w) := q_iconst (jd_of jb_297 dX9_denied_6)
theorem p297_7 (lv : jmL) (w : jmW) (x : Int) : rn 297 (7, lv, [.inl x], w) = jq_b (decide (x = 0 ∨ x = 1)) (some (some (.inl x), w)) := q_zreturn (jd_of jb_297 dX9_denied_7) jr_297
theorem p298_0 (lv : jmL) (st : List jmV) (w : jmW) : rn 298 (0, lv, st, w) = jq_lda 298 1 lv st w (jg lv 0) := q_aload_n (jd_of jb_298 dX9_granted_0) rfl
theorem p298_1 (lv : jmL) (st : List jmV) (w : jmW) : rn 298 (1, lv, st, w) = rn 298 (2, lv, .inl (0) :: st, w) := q_iconst (jd_of jb_298 dX9_granted_1)
theorem p298_2 (lv : jmL) (st : List jmV) (w : jmW) (b : Nat) (x1 : Int) : rn 298 (2, lv, .inl x1 :: jvr b :: st, w) = jq_s (mS w b) (1, 9, 0) (jq_b (decide (jwd st ≤ 8)) (jq_c 298 5 lv st (rn 213 (0, [(0, jvr b), (1, .inl x1)], [], w)))) := q_callv (as := [.inl x1]) (rest := st) (jd_of jb_298 dX9_granted_2) jo_298 jk_9_64 rfl rfl rfl jo_213 jf_298_213 (Nat.le_of_ble_eq_true rfl)
theorem p298_5 (lv : jmL) (st : List jmV) (w : jmW) (x : Int) : rn 298 (5, lv, .inl x :: st, w) = rn 298 (6, lv, st, w) := q_pop (jd_of jb_298 dX9_granted_5)
theorem p298_6 (lv : jmL) (st : List jmV) (w : jmW) : rn 298 (6, lv, st, w) = rn 298 (7, lv, .inl (1) :: st, w) := q_iconst (jd_of jb_298 dX9_granted_6)
theorem p298_7 (lv : jmL) (w : jmW) (x : Int) : rn 298 (7, lv, [.inl x], w) = jq_b (decide (x = 0 ∨ x = 1)) (some (some (.inl x), w)) := q_zreturn (jd_of jb_298 dX9_granted_7) jr_298
theorem p299_0 (lv : jmL) (st : List jmV) (w : jmW) : rn 299 (0, lv, st, w) = jq_lda 299 1 lv st w (jg lv 0) := q_aload_n (jd_of jb_299 dX9_change_0) rfl
theorem p299_1 (lv : jmL) (st : List jmV) (w : jmW) : rn 299 (1, lv, st, w) = rn 299 (2, lv, .inl (0) :: st, w) := q_iconst (jd_of jb_299 dX9_change_1)
theorem p299_2 (lv : jmL) (st : List jmV) (w : jmW) (a : Nat) (x : Int) : rn 299 (2, lv, .inl x :: jvr a :: st, w) = jq_gs (mS w a) (1, 9, 0) 299 5 lv (st) (setI w a 0 x) := q_putf (jd_of jb_299 dX9_change_2) jo_299 jk_9_54 (Or.inl rfl) rfl
theorem p299_5 (lv : jmL) (st : List jmV) (w : jmW) : rn 299 (5, lv, st, w) = jq_lda 299 6 lv st w (jg lv 0) := q_aload_n (jd_of jb_299 dX9_change_5) rfl
theorem p299_6 (lv : jmL) (st : List jmV) (w : jmW) : rn 299 (6, lv, st, w) = jq_ldi 299 7 lv st w (jg lv 1) := q_iload_n (jd_of jb_299 dX9_change_6) rfl
theorem p299_7 (lv : jmL) (st : List jmV) (w : jmW) (b : Nat) (x1 : Int) : rn 299 (7, lv, .inl x1 :: jvr b :: st, w) = jq_s (mS w b) (1, 9, 0) (jq_b (decide (jwd st ≤ 8)) (jq_c 299 10 lv st (rn 220 (0, [(0, jvr b), (1, .inl x1)], [], w)))) := q_callv (as := [.inl x1]) (rest := st) (jd_of jb_299 dX9_change_7) jo_299 jk_9_511 rfl rfl rfl jo_220 jf_299_220 (Nat.le_of_ble_eq_true rfl)
theorem p299_10 (lv : jmL) (st : List jmV) (w : jmW) (x : Int) : rn 299 (10, lv, .inl x :: st, w) = if jw x = 0 then rn 299 (34, lv, st, w) else rn 299 (13, lv, st, w) := q_if_eq (jd_of jb_299 dX9_change_10) (by decide)
theorem p299_13 (lv : jmL) (st : List jmV) (w : jmW) : rn 299 (13, lv, st, w) = jq_lda 299 14 lv st w (jg lv 0) := q_aload_n (jd_of jb_299 dX9_change_13) rfl
theorem p299_14 (lv : jmL) (st : List jmV) (w : jmW) : rn 299 (14, lv, st, w) = jq_ldi 299 15 lv st w (jg lv 2) := q_iload_n (jd_of jb_299 dX9_change_14) rfl
theorem p299_15 (lv : jmL) (st : List jmV) (w : jmW) (b : Nat) (x1 : Int) : rn 299 (15, lv, .inl x1 :: jvr b :: st, w) = jq_s (mS w b) (1, 9, 0) (jq_b (decide (jwd st ≤ 8)) (jq_c 299 18 lv st (rn 220 (0, [(0, jvr b), (1, .inl x1)], [], w)))) := q_callv (as := [.inl x1]) (rest := st) (jd_of jb_299 dX9_change_15) jo_299 jk_9_511 rfl rfl rfl jo_220 jf_299_220 (Nat.le_of_ble_eq_true rfl)
theorem p299_18 (lv : jmL) (st : List jmV) (w : jmW) (x : Int) : rn 299 (18, lv, .inl x :: st, w) = if jw x = 0 then rn 299 (34, lv, st, w) else rn 299 (21, lv, st, w) := q_if_eq (jd_of jb_299 dX9_change_18) (by decide)
theorem p299_21 (lv : jmL) (st : List jmV) (w : jmW) : rn 299 (21, lv, st, w) = jq_ldi 299 22 lv st w (jg lv 1) := q_iload_n (jd_of jb_299 dX9_change_21) rfl
theorem p299_22 (lv : jmL) (st : List jmV) (w : jmW) : rn 299 (22, lv, st, w) = jq_ldi 299 23 lv st w (jg lv 2) := q_iload_n (jd_of jb_299 dX9_change_22) rfl
theorem p299_23 (lv : jmL) (st : List jmV) (w : jmW) (x y : Int) : rn 299 (23, lv, .inl y :: .inl x :: st, w) = if jw x = jw y then rn 299 (34, lv, st, w) else rn 299 (26, lv, st, w) := q_icmp_eq (jd_of jb_299 dX9_change_23) (by decide)
theorem p299_26 (lv : jmL) (st : List jmV) (w : jmW) : rn 299 (26, lv, st, w) = jq_ldi 299 27 lv st w (jg lv 1) := q_iload_n (jd_of jb_299 dX9_change_26) rfl
theorem p299_27 (lv : jmL) (st : List jmV) (w : jmW) (x : Int) : rn 299 (27, lv, .inl x :: st, w) = if jw x = 0 then rn 299 (34, lv, st, w) else rn 299 (30, lv, st, w) := q_if_eq (jd_of jb_299 dX9_change_27) (by decide)
theorem p299_30 (lv : jmL) (st : List jmV) (w : jmW) : rn 299 (30, lv, st, w) = jq_ldi 299 31 lv st w (jg lv 2) := q_iload_n (jd_of jb_299 dX9_change_30) rfl
theorem p299_31 (lv : jmL) (st : List jmV) (w : jmW) (x : Int) : rn 299 (31, lv, .inl x :: st, w) = if jw x = 0 then rn 299 (34, lv, st, w) else rn 299 (40, lv, st, w) := q_if_ne (jd_of jb_299 dX9_change_31) (by decide)
theorem p299_34 (lv : jmL) (st : List jmV) (w : jmW) : rn 299 (34, lv, st, w) = jq_lda 299 35 lv st w (jg lv 0) := q_aload_n (jd_of jb_299 dX9_change_34) rfl
theorem p299_35 (lv : jmL) (st : List jmV) (w : jmW) : rn 299 (35, lv, st, w) = rn 299 (36, lv, .inl (1) :: st, w) := q_iconst (jd_of jb_299 dX9_change_35)
theorem p299_36 (lv : jmL) (st : List jmV) (w : jmW) (b : Nat) (x1 : Int) : rn 299 (36, lv, .inl x1 :: jvr b :: st, w) = jq_s (mS w b) (1, 9, 0) (jq_b (decide (jwd st ≤ 8)) (jq_c 299 39 lv st (rn 297 (0, [(0, jvr b), (1, .inl x1)], [], w)))) := q_callv (as := [.inl x1]) (rest := st) (jd_of jb_299 dX9_change_36) jo_299 jk_9_585 rfl rfl rfl jo_297 jf_299_297 (Nat.le_of_ble_eq_true rfl)
theorem p299_39 (lv : jmL) (w : jmW) (x : Int) : rn 299 (39, lv, [.inl x], w) = jq_b (decide (x = 0 ∨ x = 1)) (some (some (.inl x), w)) := q_zreturn (jd_of jb_299 dX9_change_39) jr_299
theorem p299_40 (lv : jmL) (st : List jmV) (w : jmW) : rn 299 (40, lv, st, w) = jq_lda 299 41 lv st w (jg lv 0) := q_aload_n (jd_of jb_299 dX9_change_40) rfl
theorem p299_41 (lv : jmL) (st : List jmV) (w : jmW) (b : Nat) : rn 299 (41, lv, jvr b :: st, w) = jq_s (mS w b) (1, 9, 0) (jq_b (decide (jwd st ≤ 8)) (jq_c 299 44 lv st (rn 295 (0, [(0, jvr b)], [], w)))) := q_callv (as := []) (rest := st) (jd_of jb_299 dX9_change_41) jo_299 jk_9_582 rfl rfl rfl jo_295 jf_299_295 (Nat.le_of_ble_eq_true rfl)
theorem p299_44 (lv : jmL) (st : List jmV) (w : jmW) : rn 299 (44, lv, st, w) = jq_lda 299 45 lv st w (jg lv 0) := q_aload_n (jd_of jb_299 dX9_change_44) rfl
theorem p299_45 (lv : jmL) (st : List jmV) (w : jmW) : rn 299 (45, lv, st, w) = rn 299 (48, lv, .inl (204) :: st, w) := q_sipush (jd_of jb_299 dX9_change_45) (by decide +kernel)
theorem p299_48 (lv : jmL) (st : List jmV) (w : jmW) : rn 299 (48, lv, st, w) = jq_ldi 299 49 lv st w (jg lv 1) := q_iload_n (jd_of jb_299 dX9_change_48) rfl
theorem p299_49 (lv : jmL) (st : List jmV) (w : jmW) : rn 299 (49, lv, st, w) = jq_ldi 299 50 lv st w (jg lv 2) := q_iload_n (jd_of jb_299 dX9_change_49) rfl
theorem p299_50 (lv : jmL) (st : List jmV) (w : jmW) (b : Nat) (x1 : Int) (x2 : Int) (x3 : Int) : rn 299 (50, lv, .inl x3 :: .inl x2 :: .inl x1 :: jvr b :: st, w) = jq_s (mS w b) (1, 9, 0) (jq_b (decide (jwd st ≤ 8)) (jq_c 299 53 lv st (rn 300 (0, [(0, jvr b), (1, .inl x1), (2, .inl x2), (3, .inl x3)], [], w)))) := q_callv (as := [.inl x1, .inl x2, .inl x3]) (rest := st) (jd_of jb_299 dX9_change_50) jo_299 jk_9_591 rfl rfl rfl jo_300 jf_299_300 (Nat.le_of_ble_eq_true rfl)
theorem p299_53 (lv : jmL) (st : List jmV) (w : jmW) : rn 299 (53, lv, st, w) = jq_lda 299 54 lv st w (jg lv 0) := q_aload_n (jd_of jb_299 dX9_change_53) rfl
theorem p299_54 (lv : jmL) (st : List jmV) (w : jmW) : rn 299 (54, lv, st, w) = rn 299 (57, lv, .inl (236) :: st, w) := q_sipush (jd_of jb_299 dX9_change_54) (by decide +kernel)
theorem p299_57 (lv : jmL) (st : List jmV) (w : jmW) : rn 299 (57, lv, st, w) = jq_ldi 299 58 lv st w (jg lv 1) := q_iload_n (jd_of jb_299 dX9_change_57) rfl
theorem p299_58 (lv : jmL) (st : List jmV) (w : jmW) : rn 299 (58, lv, st, w) = jq_ldi 299 59 lv st w (jg lv 2) := q_iload_n (jd_of jb_299 dX9_change_58) rfl
theorem p299_59 (lv : jmL) (st : List jmV) (w : jmW) (b : Nat) (x1 : Int) (x2 : Int) (x3 : Int) : rn 299 (59, lv, .inl x3 :: .inl x2 :: .inl x1 :: jvr b :: st, w) = jq_s (mS w b) (1, 9, 0) (jq_b (decide (jwd st ≤ 8)) (jq_c 299 62 lv st (rn 300 (0, [(0, jvr b), (1, .inl x1), (2, .inl x2), (3, .inl x3)], [], w)))) := q_callv (as := [.inl x1, .inl x2, .inl x3]) (rest := st) (jd_of jb_299 dX9_change_59) jo_299 jk_9_591 rfl rfl rfl jo_300 jf_299_300 (Nat.le_of_ble_eq_true rfl)
theorem p299_62 (lv : jmL) (st : List jmV) (w : jmW) : rn 299 (62, lv, st, w) = jq_lda 299 63 lv st w (jg lv 0) := q_aload_n (jd_of jb_299 dX9_change_62) rfl
theorem p299_63 (lv : jmL) (st : List jmV) (w : jmW) : rn 299 (63, lv, st, w) = rn 299 (66, lv, .inl (252) :: st, w) := q_sipush (jd_of jb_299 dX9_change_63) (by decide +kernel)
theorem p299_66 (lv : jmL) (st : List jmV) (w : jmW) : rn 299 (66, lv, st, w) = jq_ldi 299 67 lv st w (jg lv 1) := q_iload_n (jd_of jb_299 dX9_change_66) rfl
theorem p299_67 (lv : jmL) (st : List jmV) (w : jmW) : rn 299 (67, lv, st, w) = jq_ldi 299 68 lv st w (jg lv 2) := q_iload_n (jd_of jb_299 dX9_change_67) rfl
theorem p299_68 (lv : jmL) (st : List jmV) (w : jmW) (b : Nat) (x1 : Int) (x2 : Int) (x3 : Int) : rn 299 (68, lv, .inl x3 :: .inl x2 :: .inl x1 :: jvr b :: st, w) = jq_s (mS w b) (1, 9, 0) (jq_b (decide (jwd st ≤ 8)) (jq_c 299 71 lv st (rn 300 (0, [(0, jvr b), (1, .inl x1), (2, .inl x2), (3, .inl x3)], [], w)))) := q_callv (as := [.inl x1, .inl x2, .inl x3]) (rest := st) (jd_of jb_299 dX9_change_68) jo_299 jk_9_591 rfl rfl rfl jo_300 jf_299_300 (Nat.le_of_ble_eq_true rfl)
theorem p299_71 (lv : jmL) (st : List jmV) (w : jmW) : rn 299 (71, lv, st, w) = jq_lda 299 72 lv st w (jg lv 0) := q_aload_n (jd_of jb_299 dX9_change_71) rfl
theorem p299_72 (lv : jmL) (st : List jmV) (w : jmW) : rn 299 (72, lv, st, w) = rn 299 (75, lv, .inl (268) :: st, w) := q_sipush (jd_of jb_299 dX9_change_72) (by decide +kernel)
theorem p299_75 (lv : jmL) (st : List jmV) (w : jmW) : rn 299 (75, lv, st, w) = jq_ldi 299 76 lv st w (jg lv 1) := q_iload_n (jd_of jb_299 dX9_change_75) rfl
theorem p299_76 (lv : jmL) (st : List jmV) (w : jmW) : rn 299 (76, lv, st, w) = jq_ldi 299 77 lv st w (jg lv 2) := q_iload_n (jd_of jb_299 dX9_change_76) rfl
theorem p299_77 (lv : jmL) (st : List jmV) (w : jmW) (b : Nat) (x1 : Int) (x2 : Int) (x3 : Int) : rn 299 (77, lv, .inl x3 :: .inl x2 :: .inl x1 :: jvr b :: st, w) = jq_s (mS w b) (1, 9, 0) (jq_b (decide (jwd st ≤ 8)) (jq_c 299 80 lv st (rn 300 (0, [(0, jvr b), (1, .inl x1), (2, .inl x2), (3, .inl x3)], [], w)))) := q_callv (as := [.inl x1, .inl x2, .inl x3]) (rest := st) (jd_of jb_299 dX9_change_77) jo_299 jk_9_591 rfl rfl rfl jo_300 jf_299_300 (Nat.le_of_ble_eq_true rfl)
theorem p299_80 (lv : jmL) (st : List jmV) (w : jmW) : rn 299 (80, lv, st, w) = jq_lda 299 81 lv st w (jg lv 0) := q_aload_n (jd_of jb_299 dX9_change_80) rfl
theorem p299_81 (lv : jmL) (st : List jmV) (w : jmW) (b : Nat) : rn 299 (81, lv, jvr b :: st, w) = jq_s (mS w b) (1, 9, 0) (jq_b (decide (jwd st ≤ 8)) (jq_c 299 84 lv st (rn 298 (0, [(0, jvr b)], [], w)))) := q_callv (as := []) (rest := st) (jd_of jb_299 dX9_change_81) jo_299 jk_9_588 rfl rfl rfl jo_298 jf_299_298 (Nat.le_of_ble_eq_true rfl)
theorem p299_84 (lv : jmL) (w : jmW) (x : Int) : rn 299 (84, lv, [.inl x], w) = jq_b (decide (x = 0 ∨ x = 1)) (some (some (.inl x), w)) := q_zreturn (jd_of jb_299 dX9_change_84) jr_299
theorem p300_0 (lv : jmL) (st : List jmV) (w : jmW) : rn 300 (0, lv, st, w) = jq_lda 300 1 lv st w (jg lv 0) := q_aload_n (jd_of jb_300 dX9_swapsIn_0) rfl
theorem p300_1 (lv : jmL) (st : List jmV) (w : jmW) (a : Nat) : rn 300 (1, lv, jvr a :: st, w) = jq_gs (mS w a) (1, 9, 0) 300 4 lv (.inr (.inr (mR w a 18)) :: st) (w) := q_getf (v := fun w a => .inr (.inr (mR w a 18))) (jd_of jb_300 dX9_swapsIn_1) jo_300 jk_9_21 (fun _ _ => rfl)
theorem p300_4 (lv : jmL) (st : List jmV) (w : jmW) : rn 300 (4, lv, st, w) = jq_ldi 300 5 lv st w (jg lv 1) := q_iload_n (jd_of jb_300 dX9_swapsIn_4) rfl
theorem p300_5 (lv : jmL) (st : List jmV) (w : jmW) : rn 300 (5, lv, st, w) = jq_ldi 300 6 lv st w (jg lv 2) := q_iload_n (jd_of jb_300 dX9_swapsIn_5) rfl
theorem p300_6 (lv : jmL) (st : List jmV) (w : jmW) (x y : Int) : rn 300 (6, lv, .inl y :: .inl x :: st, w) = rn 300 (7, lv, .inl (x + y) :: st, w) := q_iadd (jd_of jb_300 dX9_swapsIn_6)
theorem p300_7 (lv : jmL) (st : List jmV) (w : jmW) (a : Nat) (j : Int) : rn 300 (7, lv, .inl j :: jvr a :: st, w) = jq_gr (mS w a) 0 j 300 8 lv (.inl (mI w a (jix j)) :: st) (w) := q_iald (jd_of jb_300 dX9_swapsIn_7)
theorem p300_8 (lv : jmL) (st : List jmV) (w : jmW) (x : Int) : rn 300 (8, lv, .inl x :: st, w) = rn 300 (10, js lv 4 (.inl x), st, w) := q_istore (jd_of jb_300 dX9_swapsIn_8) (by rw [jm_300]; decide)
theorem p300_10 (lv : jmL) (st : List jmV) (w : jmW) : rn 300 (10, lv, st, w) = jq_lda 300 11 lv st w (jg lv 0) := q_aload_n (jd_of jb_300 dX9_swapsIn_10) rfl
theorem p300_11 (lv : jmL) (st : List jmV) (w : jmW) (a : Nat) : rn 300 (11, lv, jvr a :: st, w) = jq_gs (mS w a) (1, 9, 0) 300 14 lv (.inr (.inr (mR w a 18)) :: st) (w) := q_getf (v := fun w a => .inr (.inr (mR w a 18))) (jd_of jb_300 dX9_swapsIn_11) jo_300 jk_9_21 (fun _ _ => rfl)
theorem p300_14 (lv : jmL) (st : List jmV) (w : jmW) : rn 300 (14, lv, st, w) = jq_ldi 300 15 lv st w (jg lv 1) := q_iload_n (jd_of jb_300 dX9_swapsIn_14) rfl
theorem p300_15 (lv : jmL) (st : List jmV) (w : jmW) : rn 300 (15, lv, st, w) = jq_ldi 300 16 lv st w (jg lv 2) := q_iload_n (jd_of jb_300 dX9_swapsIn_15) rfl
theorem p300_16 (lv : jmL) (st : List jmV) (w : jmW) (x y : Int) : rn 300 (16, lv, .inl y :: .inl x :: st, w) = rn 300 (17, lv, .inl (x + y) :: st, w) := q_iadd (jd_of jb_300 dX9_swapsIn_16)
theorem p300_17 (lv : jmL) (st : List jmV) (w : jmW) : rn 300 (17, lv, st, w) = jq_lda 300 18 lv st w (jg lv 0) := q_aload_n (jd_of jb_300 dX9_swapsIn_17) rfl
theorem p300_18 (lv : jmL) (st : List jmV) (w : jmW) (a : Nat) : rn 300 (18, lv, jvr a :: st, w) = jq_gs (mS w a) (1, 9, 0) 300 21 lv (.inr (.inr (mR w a 18)) :: st) (w) := q_getf (v := fun w a => .inr (.inr (mR w a 18))) (jd_of jb_300 dX9_swapsIn_18) jo_300 jk_9_21 (fun _ _ => rfl)
theorem p300_21 (lv : jmL) (st : List jmV) (w : jmW) : rn 300 (21, lv, st, w) = jq_ldi 300 22 lv st w (jg lv 1) := q_iload_n (jd_of jb_300 dX9_swapsIn_21) rfl
theorem p300_22 (lv : jmL) (st : List jmV) (w : jmW) : rn 300 (22, lv, st, w) = jq_ldi 300 23 lv st w (jg lv 3) := q_iload_n (jd_of jb_300 dX9_swapsIn_22) rfl
theorem p300_23 (lv : jmL) (st : List jmV) (w : jmW) (x y : Int) : rn 300 (23, lv, .inl y :: .inl x :: st, w) = rn 300 (24, lv, .inl (x + y) :: st, w) := q_iadd (jd_of jb_300 dX9_swapsIn_23)
theorem p300_24 (lv : jmL) (st : List jmV) (w : jmW) (a : Nat) (j : Int) : rn 300 (24, lv, .inl j :: jvr a :: st, w) = jq_gr (mS w a) 0 j 300 25 lv (.inl (mI w a (jix j)) :: st) (w) := q_iald (jd_of jb_300 dX9_swapsIn_24)
theorem p300_25 (lv : jmL) (st : List jmV) (w : jmW) (a : Nat) (j x : Int) : rn 300 (25, lv, .inl x :: .inl j :: jvr a :: st, w) = jq_gw (mS w a) 0 j 300 26 lv (st) (setI w a (jix j) x) := q_iast (jd_of jb_300 dX9_swapsIn_25)
theorem p300_26 (lv : jmL) (st : List jmV) (w : jmW) : rn 300 (26, lv, st, w) = jq_lda 300 27 lv st w (jg lv 0) := q_aload_n (jd_of jb_300 dX9_swapsIn_26) rfl
theorem p300_27 (lv : jmL) (st : List jmV) (w : jmW) (a : Nat) : rn 300 (27, lv, jvr a :: st, w) = jq_gs (mS w a) (1, 9, 0) 300 30 lv (.inr (.inr (mR w a 18)) :: st) (w) := q_getf (v := fun w a => .inr (.inr (mR w a 18))) (jd_of jb_300 dX9_swapsIn_27) jo_300 jk_9_21 (fun _ _ => rfl)
theorem p300_30 (lv : jmL) (st : List jmV) (w : jmW) : rn 300 (30, lv, st, w) = jq_ldi 300 31 lv st w (jg lv 1) := q_iload_n (jd_of jb_300 dX9_swapsIn_30) rfl
theorem p300_31 (lv : jmL) (st : List jmV) (w : jmW) : rn 300 (31, lv, st, w) = jq_ldi 300 32 lv st w (jg lv 3) := q_iload_n (jd_of jb_300 dX9_swapsIn_31) rfl
theorem p300_32 (lv : jmL) (st : List jmV) (w : jmW) (x y : Int) : rn 300 (32, lv, .inl y :: .inl x :: st, w) = rn 300 (33, lv, .inl (x + y) :: st, w) := q_iadd (jd_of jb_300 dX9_swapsIn_32)
theorem p300_33 (lv : jmL) (st : List jmV) (w : jmW) : rn 300 (33, lv, st, w) = jq_ldi 300 35 lv st w (jg lv 4) := q_iload (jd_of jb_300 dX9_swapsIn_33)
theorem p300_35 (lv : jmL) (st : List jmV) (w : jmW) (a : Nat) (j x : Int) : rn 300 (35, lv, .inl x :: .inl j :: jvr a :: st, w) = jq_gw (mS w a) 0 j 300 36 lv (st) (setI w a (jix j) x) := q_iast (jd_of jb_300 dX9_swapsIn_35)
theorem p300_36 (lv : jmL) (w : jmW) : rn 300 (36, lv, [], w) = some (none, w) := q_return (jd_of jb_300 dX9_swapsIn_36) jr_300
theorem p301_0 (lv : jmL) (st : List jmV) (w : jmW) : rn 301 (0, lv, st, w) = jq_lda 301 1 lv st w (jg lv 0) := q_aload_n (jd_of jb_301 dX9_letGo_0) rfl
theorem p301_1 (lv : jmL) (st : List jmV) (w : jmW) : rn 301 (1, lv, st, w) = rn 301 (2, lv, .inl (0) :: st, w) := q_iconst (jd_of jb_301 dX9_letGo_1)
theorem p301_2 (lv : jmL) (st : List jmV) (w : jmW) (a : Nat) (x : Int) : rn 301 (2, lv, .inl x :: jvr a :: st, w) = jq_gs (mS w a) (1, 9, 0) 301 5 lv (st) (setI w a 0 x) := q_putf (jd_of jb_301 dX9_letGo_2) jo_301 jk_9_54 (Or.inl rfl) rfl
theorem p301_5 (lv : jmL) (st : List jmV) (w : jmW) : rn 301 (5, lv, st, w) = jq_lda 301 6 lv st w (jg lv 0) := q_aload_n (jd_of jb_301 dX9_letGo_5) rfl
theorem p301_6 (lv : jmL) (st : List jmV) (w : jmW) : rn 301 (6, lv, st, w) = jq_ldi 301 7 lv st w (jg lv 1) := q_iload_n (jd_of jb_301 dX9_letGo_6) rfl
theorem p301_7 (lv : jmL) (st : List jmV) (w : jmW) (b : Nat) (x1 : Int) : rn 301 (7, lv, .inl x1 :: jvr b :: st, w) = jq_s (mS w b) (1, 9, 0) (jq_b (decide (jwd st ≤ 8)) (jq_c 301 10 lv st (rn 220 (0, [(0, jvr b), (1, .inl x1)], [], w)))) := q_callv (as := [.inl x1]) (rest := st) (jd_of jb_301 dX9_letGo_7) jo_301 jk_9_511 rfl rfl rfl jo_220 jf_301_220 (Nat.le_of_ble_eq_true rfl)
theorem p301_10 (lv : jmL) (st : List jmV) (w : jmW) (x : Int) : rn 301 (10, lv, .inl x :: st, w) = if jw x = 0 then rn 301 (13, lv, st, w) else rn 301 (19, lv, st, w) := q_if_ne (jd_of jb_301 dX9_letGo_10) (by decide)
theorem p301_13 (lv : jmL) (st : List jmV) (w : jmW) : rn 301 (13, lv, st, w) = jq_lda 301 14 lv st w (jg lv 0) := q_aload_n (jd_of jb_301 dX9_letGo_13) rfl
theorem p301_14 (lv : jmL) (st : List jmV) (w : jmW) : rn 301 (14, lv, st, w) = rn 301 (15, lv, .inl (1) :: st, w) := q_iconst (jd_of jb_301 dX9_letGo_14)
theorem p301_15 (lv : jmL) (st : List jmV) (w : jmW) (b : Nat) (x1 : Int) : rn 301 (15, lv, .inl x1 :: jvr b :: st, w) = jq_s (mS w b) (1, 9, 0) (jq_b (decide (jwd st ≤ 8)) (jq_c 301 18 lv st (rn 297 (0, [(0, jvr b), (1, .inl x1)], [], w)))) := q_callv (as := [.inl x1]) (rest := st) (jd_of jb_301 dX9_letGo_15) jo_301 jk_9_585 rfl rfl rfl jo_297 jf_301_297 (Nat.le_of_ble_eq_true rfl)
theorem p301_18 (lv : jmL) (w : jmW) (x : Int) : rn 301 (18, lv, [.inl x], w) = jq_b (decide (x = 0 ∨ x = 1)) (some (some (.inl x), w)) := q_zreturn (jd_of jb_301 dX9_letGo_18) jr_301
theorem p301_19 (lv : jmL) (st : List jmV) (w : jmW) : rn 301 (19, lv, st, w) = jq_ldi 301 20 lv st w (jg lv 1) := q_iload_n (jd_of jb_301 dX9_letGo_19) rfl
theorem p301_20 (lv : jmL) (st : List jmV) (w : jmW) (x : Int) : rn 301 (20, lv, .inl x :: st, w) = if jw x = 0 then rn 301 (23, lv, st, w) else rn 301 (29, lv, st, w) := q_if_ne (jd_of jb_301 dX9_letGo_20) (by decide)
theorem p301_23 (lv : jmL) (st : List jmV) (w : jmW) : rn 301 (23, lv, st, w) = jq_lda 301 24 lv st w (jg lv 0) := q_aload_n (jd_of jb_301 dX9_letGo_23) rfl
theorem p301_24 (lv : jmL) (st : List jmV) (w : jmW) : rn 301 (24, lv, st, w) = rn 301 (25, lv, .inl (5) :: st, w) := q_iconst (jd_of jb_301 dX9_letGo_24)
theorem p301_25 (lv : jmL) (st : List jmV) (w : jmW) (b : Nat) (x1 : Int) : rn 301 (25, lv, .inl x1 :: jvr b :: st, w) = jq_s (mS w b) (1, 9, 0) (jq_b (decide (jwd st ≤ 8)) (jq_c 301 28 lv st (rn 297 (0, [(0, jvr b), (1, .inl x1)], [], w)))) := q_callv (as := [.inl x1]) (rest := st) (jd_of jb_301 dX9_letGo_25) jo_301 jk_9_585 rfl rfl rfl jo_297 jf_301_297 (Nat.le_of_ble_eq_true rfl)
theorem p301_28 (lv : jmL) (w : jmW) (x : Int) : rn 301 (28, lv, [.inl x], w) = jq_b (decide (x = 0 ∨ x = 1)) (some (some (.inl x), w)) := q_zreturn (jd_of jb_301 dX9_letGo_28) jr_301
theorem p301_29 (lv : jmL) (st : List jmV) (w : jmW) : rn 301 (29, lv, st, w) = jq_lda 301 30 lv st w (jg lv 0) := q_aload_n (jd_of jb_301 dX9_letGo_29) rfl
theorem p301_30 (lv : jmL) (st : List jmV) (w : jmW) (b : Nat) : rn 301 (30, lv, jvr b :: st, w) = jq_s (mS w b) (1, 9, 0) (jq_b (decide (jwd st ≤ 8)) (jq_c 301 33 lv st (rn 295 (0, [(0, jvr b)], [], w)))) := q_callv (as := []) (rest := st) (jd_of jb_301 dX9_letGo_30) jo_301 jk_9_582 rfl rfl rfl jo_295 jf_301_295 (Nat.le_of_ble_eq_true rfl)
theorem p301_33 (lv : jmL) (st : List jmV) (w : jmW) : rn 301 (33, lv, st, w) = jq_lda 301 34 lv st w (jg lv 0) := q_aload_n (jd_of jb_301 dX9_letGo_33) rfl
theorem p301_34 (lv : jmL) (st : List jmV) (w : jmW) (a : Nat) : rn 301 (34, lv, jvr a :: st, w) = jq_gs (mS w a) (1, 9, 0) 301 37 lv (.inr (.inr (mR w a 18)) :: st) (w) := q_getf (v := fun w a => .inr (.inr (mR w a 18))) (jd_of jb_301 dX9_letGo_34) jo_301 jk_9_21 (fun _ _ => rfl)
theorem p301_37 (lv : jmL) (st : List jmV) (w : jmW) : rn 301 (37, lv, st, w) = jq_ldi 301 38 lv st w (jg lv 1) := q_iload_n (jd_of jb_301 dX9_letGo_37) rfl
theorem p301_38 (lv : jmL) (st : List jmV) (w : jmW) (x1 : Option Nat) (x2 : Int) : rn 301 (38, lv, .inl x2 :: .inr (.inr x1) :: st, w) = jq_b (decide (jwd st ≤ 8)) (jq_c 301 41 lv st (rn 253 (0, [(0, .inr (.inr x1)), (1, .inl x2)], [], w))) := q_calls (as := [.inr (.inr x1), .inl x2]) (rest := st) (jd_of jb_301 dX9_letGo_38) jo_301 jk_9_464 rfl rfl rfl jf_301_253 (Nat.le_of_ble_eq_true rfl)
theorem p301_41 (lv : jmL) (st : List jmV) (w : jmW) : rn 301 (41, lv, st, w) = jq_lda 301 42 lv st w (jg lv 0) := q_aload_n (jd_of jb_301 dX9_letGo_41) rfl
theorem p301_42 (lv : jmL) (st : List jmV) (w : jmW) (b : Nat) : rn 301 (42, lv, jvr b :: st, w) = jq_s (mS w b) (1, 9, 0) (jq_b (decide (jwd st ≤ 8)) (jq_c 301 45 lv st (rn 298 (0, [(0, jvr b)], [], w)))) := q_callv (as := []) (rest := st) (jd_of jb_301 dX9_letGo_42) jo_301 jk_9_588 rfl rfl rfl jo_298 jf_301_298 (Nat.le_of_ble_eq_true rfl)
theorem p301_45 (lv : jmL) (w : jmW) (x : Int) : rn 301 (45, lv, [.inl x], w) = jq_b (decide (x = 0 ∨ x = 1)) (some (some (.inl x), w)) := q_zreturn (jd_of jb_301 dX9_letGo_45) jr_301
theorem p302_0 (lv : jmL) (st : List jmV) (w : jmW) : rn 302 (0, lv, st, w) = jq_lda 302 1 lv st w (jg lv 0) := q_aload_n (jd_of jb_302 dX9_band_0) rfl
theorem p302_1 (lv : jmL) (st : List jmV) (w : jmW) : rn 302 (1, lv, st, w) = rn 302 (2, lv, .inl (0) :: st, w) := q_iconst (jd_of jb_302 dX9_band_1)
theorem p302_2 (lv : jmL) (st : List jmV) (w : jmW) (a : Nat) (x : Int) : rn 302 (2, lv, .inl x :: jvr a :: st, w) = jq_gs (mS w a) (1, 9, 0) 302 5 lv (st) (setI w a 0 x) := q_putf (jd_of jb_302 dX9_band_2) jo_302 jk_9_54 (Or.inl rfl) rfl
theorem p302_5 (lv : jmL) (st : List jmV) (w : jmW) : rn 302 (5, lv, st, w) = jq_lda 302 6 lv st w (jg lv 0) := q_aload_n (jd_of jb_302 dX9_band_5) rfl
theorem p302_6 (lv : jmL) (st : List jmV) (w : jmW) : rn 302 (6, lv, st, w) = jq_ldi 302 7 lv st w (jg lv 1) := q_iload_n (jd_of jb_302 dX9_band_6) rfl
theorem p302_7 (lv : jmL) (st : List jmV) (w : jmW) : rn 302 (7, lv, st, w) = jq_ldi 302 8 lv st w (jg lv 2) := q_iload_n (jd_of jb_302 dX9_band_7) rfl
theorem p302_8 (lv : jmL) (st : List jmV) (w : jmW) (b : Nat) (x1 : Int) (x2 : Int) : rn 302 (8, lv, .inl x2 :: .inl x1 :: jvr b :: st, w) = jq_s (mS w b) (1, 9, 0) (jq_b (decide (jwd st ≤ 8)) (jq_c 302 11 lv st (rn 217 (0, [(0, jvr b), (1, .inl x1), (2, .inl x2)], [], w)))) := q_callv (as := [.inl x1, .inl x2]) (rest := st) (jd_of jb_302 dX9_band_8) jo_302 jk_9_508 rfl rfl rfl jo_217 jf_302_217 (Nat.le_of_ble_eq_true rfl)
theorem p302_11 (lv : jmL) (st : List jmV) (w : jmW) (x : Int) : rn 302 (11, lv, .inl x :: st, w) = if jw x = 0 then rn 302 (37, lv, st, w) else rn 302 (14, lv, st, w) := q_if_eq (jd_of jb_302 dX9_band_11) (by decide)
theorem p302_14 (lv : jmL) (st : List jmV) (w : jmW) : rn 302 (14, lv, st, w) = jq_lda 302 15 lv st w (jg lv 0) := q_aload_n (jd_of jb_302 dX9_band_14) rfl
theorem p302_15 (lv : jmL) (st : List jmV) (w : jmW) (a : Nat) : rn 302 (15, lv, jvr a :: st, w) = jq_gs (mS w a) (1, 9, 0) 302 18 lv (.inr (.inr (mR w a 3)) :: st) (w) := q_getf (v := fun w a => .inr (.inr (mR w a 3))) (jd_of jb_302 dX9_band_15) jo_302 jk_9_389 (fun _ _ => rfl)
theorem p302_18 (lv : jmL) (st : List jmV) (w : jmW) (a : Nat) : rn 302 (18, lv, jvr a :: st, w) = jq_gs (mS w a) (1, 8, 0) 302 21 lv (.inr (.inr (mR w a 17)) :: st) (w) := q_getf (v := fun w a => .inr (.inr (mR w a 17))) (jd_of jb_302 dX9_band_18) jo_302 jk_9_275 (fun _ _ => rfl)
theorem p302_21 (lv : jmL) (st : List jmV) (w : jmW) : rn 302 (21, lv, st, w) = jq_lda 302 22 lv st w (jg lv 0) := q_aload_n (jd_of jb_302 dX9_band_21) rfl
theorem p302_22 (lv : jmL) (st : List jmV) (w : jmW) (a : Nat) : rn 302 (22, lv, jvr a :: st, w) = jq_gs (mS w a) (1, 9, 0) 302 25 lv (.inr (.inr (mR w a 3)) :: st) (w) := q_getf (v := fun w a => .inr (.inr (mR w a 3))) (jd_of jb_302 dX9_band_22) jo_302 jk_9_389 (fun _ _ => rfl)
theorem p302_25 (lv : jmL) (st : List jmV) (w : jmW) (a : Nat) : rn 302 (25, lv, jvr a :: st, w) = jq_gs (mS w a) (1, 8, 0) 302 28 lv (.inl (mI w a 0) :: st) (w) := q_getf (v := fun w a => .inl (mI w a 0)) (jd_of jb_302 dX9_band_25) jo_302 jk_9_154 (fun _ _ => rfl)
theorem p302_28 (lv : jmL) (st : List jmV) (w : jmW) : rn 302 (28, lv, st, w) = jq_ldi 302 29 lv st w (jg lv 2) := q_iload_n (jd_of jb_302 dX9_band_28) rfl
theorem p302_29 (lv : jmL) (st : List jmV) (w : jmW) (x y : Int) : rn 302 (29, lv, .inl y :: .inl x :: st, w) = rn 302 (30, lv, .inl (x * y) :: st, w) := q_imul (jd_of jb_302 dX9_band_29)
theorem p302_30 (lv : jmL) (st : List jmV) (w : jmW) : rn 302 (30, lv, st, w) = jq_ldi 302 31 lv st w (jg lv 1) := q_iload_n (jd_of jb_302 dX9_band_30) rfl
theorem p302_31 (lv : jmL) (st : List jmV) (w : jmW) (x y : Int) : rn 302 (31, lv, .inl y :: .inl x :: st, w) = rn 302 (32, lv, .inl (x + y) :: st, w) := q_iadd (jd_of jb_302 dX9_band_31)
theorem p302_32 (lv : jmL) (st : List jmV) (w : jmW) (a : Nat) (j : Int) : rn 302 (32, lv, .inl j :: jvr a :: st, w) = jq_gr (mS w a) 0 j 302 33 lv (.inl (mI w a (jix j)) :: st) (w) := q_iald (jd_of jb_302 dX9_band_32)
theorem p302_33 (lv : jmL) (st : List jmV) (w : jmW) : rn 302 (33, lv, st, w) = rn 302 (34, lv, .inl (2) :: st, w) := q_iconst (jd_of jb_302 dX9_band_33)
theorem p302_34 (lv : jmL) (st : List jmV) (w : jmW) (x y : Int) : rn 302 (34, lv, .inl y :: .inl x :: st, w) = if jw x = jw y then rn 302 (37, lv, st, w) else rn 302 (43, lv, st, w) := q_icmp_ne (jd_of jb_302 dX9_band_34) (by decide)
theorem p302_37 (lv : jmL) (st : List jmV) (w : jmW) : rn 302 (37, lv, st, w) = jq_lda 302 38 lv st w (jg lv 0) := q_aload_n (jd_of jb_302 dX9_band_37) rfl
theorem p302_38 (lv : jmL) (st : List jmV) (w : jmW) : rn 302 (38, lv, st, w) = rn 302 (39, lv, .inl (1) :: st, w) := q_iconst (jd_of jb_302 dX9_band_38)
theorem p302_39 (lv : jmL) (st : List jmV) (w : jmW) (b : Nat) (x1 : Int) : rn 302 (39, lv, .inl x1 :: jvr b :: st, w) = jq_s (mS w b) (1, 9, 0) (jq_b (decide (jwd st ≤ 8)) (jq_c 302 42 lv st (rn 297 (0, [(0, jvr b), (1, .inl x1)], [], w)))) := q_callv (as := [.inl x1]) (rest := st) (jd_of jb_302 dX9_band_39) jo_302 jk_9_585 rfl rfl rfl jo_297 jf_302_297 (Nat.le_of_ble_eq_true rfl)
theorem p302_42 (lv : jmL) (w : jmW) (x : Int) : rn 302 (42, lv, [.inl x], w) = jq_b (decide (x = 0 ∨ x = 1)) (some (some (.inl x), w)) := q_zreturn (jd_of jb_302 dX9_band_42) jr_302
theorem p302_43 (lv : jmL) (st : List jmV) (w : jmW) : rn 302 (43, lv, st, w) = jq_lda 302 44 lv st w (jg lv 0) := q_aload_n (jd_of jb_302 dX9_band_43) rfl
theorem p302_44 (lv : jmL) (st : List jmV) (w : jmW) (a : Nat) : rn 302 (44, lv, jvr a :: st, w) = jq_gs (mS w a) (1, 9, 0) 302 47 lv (.inr (.inr (mR w a 18)) :: st) (w) := q_getf (v := fun w a => .inr (.inr (mR w a 18))) (jd_of jb_302 dX9_band_44) jo_302 jk_9_21 (fun _ _ => rfl)
theorem p302_47 (lv : jmL) (st : List jmV) (w : jmW) : rn 302 (47, lv, st, w) = rn 302 (50, lv, .inl (296) :: st, w) := q_sipush (jd_of jb_302 dX9_band_47) (by decide +kernel)
theorem p302_50 (lv : jmL) (st : List jmV) (w : jmW) (a : Nat) (j : Int) : rn 302 (50, lv, .inl j :: jvr a :: st, w) = jq_gr (mS w a) 0 j 302 51 lv (.inl (mI w a (jix j)) :: st) (w) := q_iald (jd_of jb_302 dX9_band_50)
theorem p302_51 (lv : jmL) (st : List jmV) (w : jmW) : rn 302 (51, lv, st, w) = rn 302 (53, lv, .inl (-2) :: st, w) := q_bipush (jd_of jb_302 dX9_band_51) (by decide +kernel)
theorem p302_53 (lv : jmL) (st : List jmV) (w : jmW) (x y : Int) : rn 302 (53, lv, .inl y :: .inl x :: st, w) = if jw x = jw y then rn 302 (56, lv, st, w) else rn 302 (63, lv, st, w) := q_icmp_ne (jd_of jb_302 dX9_band_53) (by decide)
theorem p302_56 (lv : jmL) (st : List jmV) (w : jmW) : rn 302 (56, lv, st, w) = jq_lda 302 57 lv st w (jg lv 0) := q_aload_n (jd_of jb_302 dX9_band_56) rfl
theorem p302_57 (lv : jmL) (st : List jmV) (w : jmW) : rn 302 (57, lv, st, w) = rn 302 (59, lv, .inl (6) :: st, w) := q_bipush (jd_of jb_302 dX9_band_57) (by decide +kernel)
theorem p302_59 (lv : jmL) (st : List jmV) (w : jmW) (b : Nat) (x1 : Int) : rn 302 (59, lv, .inl x1 :: jvr b :: st, w) = jq_s (mS w b) (1, 9, 0) (jq_b (decide (jwd st ≤ 8)) (jq_c 302 62 lv st (rn 297 (0, [(0, jvr b), (1, .inl x1)], [], w)))) := q_callv (as := [.inl x1]) (rest := st) (jd_of jb_302 dX9_band_59) jo_302 jk_9_585 rfl rfl rfl jo_297 jf_302_297 (Nat.le_of_ble_eq_true rfl)
theorem p302_62 (lv : jmL) (w : jmW) (x : Int) : rn 302 (62, lv, [.inl x], w) = jq_b (decide (x = 0 ∨ x = 1)) (some (some (.inl x), w)) := q_zreturn (jd_of jb_302 dX9_band_62) jr_302
theorem p302_63 (lv : jmL) (st : List jmV) (w : jmW) : rn 302 (63, lv, st, w) = jq_lda 302 64 lv st w (jg lv 0) := q_aload_n (jd_of jb_302 dX9_band_63) rfl
theorem p302_64 (lv : jmL) (st : List jmV) (w : jmW) (a : Nat) : rn 302 (64, lv, jvr a :: st, w) = jq_gs (mS w a) (1, 9, 0) 302 67 lv (.inr (.inr (mR w a 18)) :: st) (w) := q_getf (v := fun w a => .inr (.inr (mR w a 18))) (jd_of jb_302 dX9_band_64) jo_302 jk_9_21 (fun _ _ => rfl)
theorem p302_67 (lv : jmL) (st : List jmV) (w : jmW) : rn 302 (67, lv, st, w) = rn 302 (70, lv, .inl (296) :: st, w) := q_sipush (jd_of jb_302 dX9_band_67) (by decide +kernel)
theorem p302_70 (lv : jmL) (st : List jmV) (w : jmW) (a : Nat) (j : Int) : rn 302 (70, lv, .inl j :: jvr a :: st, w) = jq_gr (mS w a) 0 j 302 71 lv (.inl (mI w a (jix j)) :: st) (w) := q_iald (jd_of jb_302 dX9_band_70)
theorem p302_71 (lv : jmL) (st : List jmV) (w : jmW) : rn 302 (71, lv, st, w) = jq_lda 302 72 lv st w (jg lv 0) := q_aload_n (jd_of jb_302 dX9_band_71) rfl
theorem p302_72 (lv : jmL) (st : List jmV) (w : jmW) (a : Nat) : rn 302 (72, lv, jvr a :: st, w) = jq_gs (mS w a) (1, 9, 0) 302 75 lv (.inr (.inr (mR w a 3)) :: st) (w) := q_getf (v := fun w a => .inr (.inr (mR w a 3))) (jd_of jb_302 dX9_band_72) jo_302 jk_9_389 (fun _ _ => rfl)
theorem p302_75 (lv : jmL) (st : List jmV) (w : jmW) (a : Nat) : rn 302 (75, lv, jvr a :: st, w) = jq_gs (mS w a) (1, 8, 0) 302 78 lv (.inl (mI w a 0) :: st) (w) := q_getf (v := fun w a => .inl (mI w a 0)) (jd_of jb_302 dX9_band_75) jo_302 jk_9_154 (fun _ _ => rfl)
theorem p302_78 (lv : jmL) (st : List jmV) (w : jmW) : rn 302 (78, lv, st, w) = jq_ldi 302 79 lv st w (jg lv 2) := q_iload_n (jd_of jb_302 dX9_band_78) rfl
theorem p302_79 (lv : jmL) (st : List jmV) (w : jmW) (x y : Int) : rn 302 (79, lv, .inl y :: .inl x :: st, w) = rn 302 (80, lv, .inl (x * y) :: st, w) := q_imul (jd_of jb_302 dX9_band_79)
theorem p302_80 (lv : jmL) (st : List jmV) (w : jmW) : rn 302 (80, lv, st, w) = jq_ldi 302 81 lv st w (jg lv 1) := q_iload_n (jd_of jb_302 dX9_band_80) rfl
theorem p302_81 (lv : jmL) (st : List jmV) (w : jmW) (x y : Int) : rn 302 (81, lv, .inl y :: .inl x :: st, w) = rn 302 (82, lv, .inl (x + y) :: st, w) := q_iadd (jd_of jb_302 dX9_band_81)
theorem p302_82 (lv : jmL) (st : List jmV) (w : jmW) (x y : Int) : rn 302 (82, lv, .inl y :: .inl x :: st, w) = if jw x = jw y then rn 302 (85, lv, st, w) else rn 302 (91, lv, st, w) := q_icmp_ne (jd_of jb_302 dX9_band_82) (by decide)
theorem p302_85 (lv : jmL) (st : List jmV) (w : jmW) : rn 302 (85, lv, st, w) = jq_lda 302 86 lv st w (jg lv 0) := q_aload_n (jd_of jb_302 dX9_band_85) rfl
theorem p302_86 (lv : jmL) (st : List jmV) (w : jmW) : rn 302 (86, lv, st, w) = rn 302 (87, lv, .inl (5) :: st, w) := q_iconst (jd_of jb_302 dX9_band_86)
theorem p302_87 (lv : jmL) (st : List jmV) (w : jmW) (b : Nat) (x1 : Int) : rn 302 (87, lv, .inl x1 :: jvr b :: st, w) = jq_s (mS w b) (1, 9, 0) (jq_b (decide (jwd st ≤ 8)) (jq_c 302 90 lv st (rn 297 (0, [(0, jvr b), (1, .inl x1)], [], w)))) := q_callv (as := [.inl x1]) (rest := st) (jd_of jb_302 dX9_band_87) jo_302 jk_9_585 rfl rfl rfl jo_297 jf_302_297 (Nat.le_of_ble_eq_true rfl)
theorem p302_90 (lv : jmL) (w : jmW) (x : Int) : rn 302 (90, lv, [.inl x], w) = jq_b (decide (x = 0 ∨ x = 1)) (some (some (.inl x), w)) := q_zreturn (jd_of jb_302 dX9_band_90) jr_302
theorem p302_91 (lv : jmL) (st : List jmV) (w : jmW) : rn 302 (91, lv, st, w) = jq_lda 302 92 lv st w (jg lv 0) := q_aload_n (jd_of jb_302 dX9_band_91) rfl
theorem p302_92 (lv : jmL) (st : List jmV) (w : jmW) (b : Nat) : rn 302 (92, lv, jvr b :: st, w) = jq_s (mS w b) (1, 9, 0) (jq_b (decide (jwd st ≤ 8)) (jq_c 302 95 lv st (rn 295 (0, [(0, jvr b)], [], w)))) := q_callv (as := []) (rest := st) (jd_of jb_302 dX9_band_92) jo_302 jk_9_582 rfl rfl rfl jo_295 jf_302_295 (Nat.le_of_ble_eq_true rfl)
theorem p302_95 (lv : jmL) (st : List jmV) (w : jmW) : rn 302 (95, lv, st, w) = jq_lda 302 96 lv st w (jg lv 0) := q_aload_n (jd_of jb_302 dX9_band_95) rfl
theorem p302_96 (lv : jmL) (st : List jmV) (w : jmW) (a : Nat) : rn 302 (96, lv, jvr a :: st, w) = jq_gs (mS w a) (1, 9, 0) 302 99 lv (.inr (.inr (mR w a 18)) :: st) (w) := q_getf (v := fun w a => .inr (.inr (mR w a 18))) (jd_of jb_302 dX9_band_96) jo_302 jk_9_21 (fun _ _ => rfl)
theorem p302_99 (lv : jmL) (st : List jmV) (w : jmW) : rn 302 (99, lv, st, w) = rn 302 (102, lv, .inl (296) :: st, w) := q_sipush (jd_of jb_302 dX9_band_99) (by decide +kernel)
theorem p302_102 (lv : jmL) (st : List jmV) (w : jmW) : rn 302 (102, lv, st, w) = jq_lda 302 103 lv st w (jg lv 0) := q_aload_n (jd_of jb_302 dX9_band_102) rfl
theorem p302_103 (lv : jmL) (st : List jmV) (w : jmW) (a : Nat) : rn 302 (103, lv, jvr a :: st, w) = jq_gs (mS w a) (1, 9, 0) 302 106 lv (.inr (.inr (mR w a 3)) :: st) (w) := q_getf (v := fun w a => .inr (.inr (mR w a 3))) (jd_of jb_302 dX9_band_103) jo_302 jk_9_389 (fun _ _ => rfl)
theorem p302_106 (lv : jmL) (st : List jmV) (w : jmW) (a : Nat) : rn 302 (106, lv, jvr a :: st, w) = jq_gs (mS w a) (1, 8, 0) 302 109 lv (.inl (mI w a 0) :: st) (w) := q_getf (v := fun w a => .inl (mI w a 0)) (jd_of jb_302 dX9_band_106) jo_302 jk_9_154 (fun _ _ => rfl)
theorem p302_109 (lv : jmL) (st : List jmV) (w : jmW) : rn 302 (109, lv, st, w) = jq_ldi 302 110 lv st w (jg lv 2) := q_iload_n (jd_of jb_302 dX9_band_109) rfl
theorem p302_110 (lv : jmL) (st : List jmV) (w : jmW) (x y : Int) : rn 302 (110, lv, .inl y :: .inl x :: st, w) = rn 302 (111, lv, .inl (x * y) :: st, w) := q_imul (jd_of jb_302 dX9_band_110)
theorem p302_111 (lv : jmL) (st : List jmV) (w : jmW) : rn 302 (111, lv, st, w) = jq_ldi 302 112 lv st w (jg lv 1) := q_iload_n (jd_of jb_302 dX9_band_111) rfl
theorem p302_112 (lv : jmL) (st : List jmV) (w : jmW) (x y : Int) : rn 302 (112, lv, .inl y :: .inl x :: st, w) = rn 302 (113, lv, .inl (x + y) :: st, w) := q_iadd (jd_of jb_302 dX9_band_112)
theorem p302_113 (lv : jmL) (st : List jmV) (w : jmW) (a : Nat) (j x : Int) : rn 302 (113, lv, .inl x :: .inl j :: jvr a :: st, w) = jq_gw (mS w a) 0 j 302 114 lv (st) (setI w a (jix j) x) := q_iast (jd_of jb_302 dX9_band_113)
theorem p302_114 (lv : jmL) (st : List jmV) (w : jmW) : rn 302 (114, lv, st, w) = jq_lda 302 115 lv st w (jg lv 0) := q_aload_n (jd_of jb_302 dX9_band_114) rfl
theorem p302_115 (lv : jmL) (st : List jmV) (w : jmW) (b : Nat) : rn 302 (115, lv, jvr b :: st, w) = jq_s (mS w b) (1, 9, 0) (jq_b (decide (jwd st ≤ 8)) (jq_c 302 118 lv st (rn 298 (0, [(0, jvr b)], [], w)))) := q_callv (as := []) (rest := st) (jd_of jb_302 dX9_band_115) jo_302 jk_9_588 rfl rfl rfl jo_298 jf_302_298 (Nat.le_of_ble_eq_true rfl)
theorem p302_118 (lv : jmL) (w : jmW) (x : Int) : rn 302 (118, lv, [.inl x], w) = jq_b (decide (x = 0 ∨ x = 1)) (some (some (.inl x), w)) := q_zreturn (jd_of jb_302 dX9_band_118) jr_302
theorem p303_0 (lv : jmL) (st : List jmV) (w : jmW) : rn 303 (0, lv, st, w) = jq_lda 303 1 lv st w (jg lv 0) := q_aload_n (jd_of jb_303 dX9_seed_0) rfl
theorem p303_1 (lv : jmL) (st : List jmV) (w : jmW) : rn 303 (1, lv, st, w) = rn 303 (2, lv, .inl (0) :: st, w) := q_iconst (jd_of jb_303 dX9_seed_1)
theorem p303_2 (lv : jmL) (st : List jmV) (w : jmW) (a : Nat) (x : Int) : rn 303 (2, lv, .inl x :: jvr a :: st, w) = jq_gs (mS w a) (1, 9, 0) 303 5 lv (st) (setI w a 0 x) := q_putf (jd_of jb_303 dX9_seed_2) jo_303 jk_9_54 (Or.inl rfl) rfl
theorem p303_5 (lv : jmL) (st : List jmV) (w : jmW) : rn 303 (5, lv, st, w) = jq_lda 303 6 lv st w (jg lv 0) := q_aload_n (jd_of jb_303 dX9_seed_5) rfl
theorem p303_6 (lv : jmL) (st : List jmV) (w : jmW) (a : Nat) : rn 303 (6, lv, jvr a :: st, w) = jq_gs (mS w a) (1, 9, 0) 303 9 lv (.inr (.inr (mR w a 3)) :: st) (w) := q_getf (v := fun w a => .inr (.inr (mR w a 3))) (jd_of jb_303 dX9_seed_6) jo_303 jk_9_389 (fun _ _ => rfl)
theorem p303_9n (lv : jmL) (st : List jmV) (w : jmW) : rn 303 (9, lv, .inr (.inr none) :: st, w) = rn 303 (12, lv, st, w) := q_ifnonnull_n (tgt := 18) (jd_of jb_303 dX9_seed_9) (by decide)
theorem p303_9s (lv : jmL) (st : List jmV) (w : jmW) (a : Nat) : rn 303 (9, lv, .inr (.inr (some a)) :: st, w) = rn 303 (18, lv, st, w) := q_ifnonnull_s (tgt := 18) (jd_of jb_303 dX9_seed_9) (by decide)
theorem p303_12 (lv : jmL) (st : List jmV) (w : jmW) : rn 303 (12, lv, st, w) = jq_lda 303 13 lv st w (jg lv 0) := q_aload_n (jd_of jb_303 dX9_seed_12) rfl
theorem p303_13 (lv : jmL) (st : List jmV) (w : jmW) : rn 303 (13, lv, st, w) = rn 303 (14, lv, .inl (1) :: st, w) := q_iconst (jd_of jb_303 dX9_seed_13)
theorem p303_14 (lv : jmL) (st : List jmV) (w : jmW) (b : Nat) (x1 : Int) : rn 303 (14, lv, .inl x1 :: jvr b :: st, w) = jq_s (mS w b) (1, 9, 0) (jq_b (decide (jwd st ≤ 8)) (jq_c 303 17 lv st (rn 297 (0, [(0, jvr b), (1, .inl x1)], [], w)))) := q_callv (as := [.inl x1]) (rest := st) (jd_of jb_303 dX9_seed_14) jo_303 jk_9_585 rfl rfl rfl jo_297 jf_303_297 (Nat.le_of_ble_eq_true rfl)
theorem p303_17 (lv : jmL) (w : jmW) (x : Int) : rn 303 (17, lv, [.inl x], w) = jq_b (decide (x = 0 ∨ x = 1)) (some (some (.inl x), w)) := q_zreturn (jd_of jb_303 dX9_seed_17) jr_303
theorem p303_18 (lv : jmL) (st : List jmV) (w : jmW) : rn 303 (18, lv, st, w) = jq_ldi 303 19 lv st w (jg lv 1) := q_iload_n (jd_of jb_303 dX9_seed_18) rfl
theorem p303_19 (lv : jmL) (st : List jmV) (w : jmW) : rn 303 (19, lv, st, w) = rn 303 (20, lv, .inl (0) :: st, w) := q_iconst (jd_of jb_303 dX9_seed_19)
theorem p303_20 (lv : jmL) (st : List jmV) (w : jmW) : rn 303 (20, lv, st, w) = rn 303 (23, lv, .inl (65536) :: st, w) := q_ldcw_i (jd_of jb_303 dX9_seed_20) jo_303 jk_9_563
theorem p303_23 (lv : jmL) (st : List jmV) (w : jmW) (x1 : Int) (x2 : Int) (x3 : Int) : rn 303 (23, lv, .inl x3 :: .inl x2 :: .inl x1 :: st, w) = jq_b (decide (jwd st ≤ 8)) (jq_c 303 26 lv st (rn 192 (0, [(0, .inl x1), (1, .inl x2), (2, .inl x3)], [], w))) := q_calls (as := [.inl x1, .inl x2, .inl x3]) (rest := st) (jd_of jb_303 dX9_seed_23) jo_303 jk_9_135 rfl rfl rfl jf_303_192 (Nat.le_of_ble_eq_true rfl)
theorem p303_26 (lv : jmL) (st : List jmV) (w : jmW) (x : Int) : rn 303 (26, lv, .inl x :: st, w) = if jw x = 0 then rn 303 (29, lv, st, w) else rn 303 (35, lv, st, w) := q_if_ne (jd_of jb_303 dX9_seed_26) (by decide)
theorem p303_29 (lv : jmL) (st : List jmV) (w : jmW) : rn 303 (29, lv, st, w) = jq_lda 303 30 lv st w (jg lv 0) := q_aload_n (jd_of jb_303 dX9_seed_29) rfl
theorem p303_30 (lv : jmL) (st : List jmV) (w : jmW) : rn 303 (30, lv, st, w) = rn 303 (31, lv, .inl (2) :: st, w) := q_iconst (jd_of jb_303 dX9_seed_30)
theorem p303_31 (lv : jmL) (st : List jmV) (w : jmW) (b : Nat) (x1 : Int) : rn 303 (31, lv, .inl x1 :: jvr b :: st, w) = jq_s (mS w b) (1, 9, 0) (jq_b (decide (jwd st ≤ 8)) (jq_c 303 34 lv st (rn 297 (0, [(0, jvr b), (1, .inl x1)], [], w)))) := q_callv (as := [.inl x1]) (rest := st) (jd_of jb_303 dX9_seed_31) jo_303 jk_9_585 rfl rfl rfl jo_297 jf_303_297 (Nat.le_of_ble_eq_true rfl)
theorem p303_34 (lv : jmL) (w : jmW) (x : Int) : rn 303 (34, lv, [.inl x], w) = jq_b (decide (x = 0 ∨ x = 1)) (some (some (.inl x), w)) := q_zreturn (jd_of jb_303 dX9_seed_34) jr_303
theorem p303_35 (lv : jmL) (st : List jmV) (w : jmW) : rn 303 (35, lv, st, w) = jq_lda 303 36 lv st w (jg lv 0) := q_aload_n (jd_of jb_303 dX9_seed_35) rfl
theorem p303_36 (lv : jmL) (st : List jmV) (w : jmW) (a : Nat) : rn 303 (36, lv, jvr a :: st, w) = jq_gs (mS w a) (1, 9, 0) 303 39 lv (.inr (.inr (mR w a 18)) :: st) (w) := q_getf (v := fun w a => .inr (.inr (mR w a 18))) (jd_of jb_303 dX9_seed_36) jo_303 jk_9_21 (fun _ _ => rfl)
theorem p303_39 (lv : jmL) (st : List jmV) (w : jmW) : rn 303 (39, lv, st, w) = rn 303 (42, lv, .inl (295) :: st, w) := q_sipush (jd_of jb_303 dX9_seed_39) (by decide +kernel)
theorem p303_42 (lv : jmL) (st : List jmV) (w : jmW) : rn 303 (42, lv, st, w) = jq_ldi 303 43 lv st w (jg lv 1) := q_iload_n (jd_of jb_303 dX9_seed_42) rfl
theorem p303_43 (lv : jmL) (st : List jmV) (w : jmW) (a : Nat) (j x : Int) : rn 303 (43, lv, .inl x :: .inl j :: jvr a :: st, w) = jq_gw (mS w a) 0 j 303 44 lv (st) (setI w a (jix j) x) := q_iast (jd_of jb_303 dX9_seed_43)
theorem p303_44 (lv : jmL) (st : List jmV) (w : jmW) : rn 303 (44, lv, st, w) = jq_lda 303 45 lv st w (jg lv 0) := q_aload_n (jd_of jb_303 dX9_seed_44) rfl
theorem p303_45 (lv : jmL) (st : List jmV) (w : jmW) (b : Nat) : rn 303 (45, lv, jvr b :: st, w) = jq_s (mS w b) (1, 9, 0) (jq_b (decide (jwd st ≤ 8)) (jq_c 303 48 lv st (rn 298 (0, [(0, jvr b)], [], w)))) := q_callv (as := []) (rest := st) (jd_of jb_303 dX9_seed_45) jo_303 jk_9_588 rfl rfl rfl jo_298 jf_303_298 (Nat.le_of_ble_eq_true rfl)
theorem p303_48 (lv : jmL) (w : jmW) (x : Int) : rn 303 (48, lv, [.inl x], w) = jq_b (decide (x = 0 ∨ x = 1)) (some (some (.inl x), w)) := q_zreturn (jd_of jb_303 dX9_seed_48) jr_303
theorem p304_0 (lv : jmL) (st : List jmV) (w : jmW) : rn 304 (0, lv, st, w) = jq_lda 304 1 lv st w (jg lv 0) := q_aload_n (jd_of jb_304 dX9_undo_0) rfl
theorem p304_1 (lv : jmL) (st : List jmV) (w : jmW) : rn 304 (1, lv, st, w) = rn 304 (2, lv, .inl (0) :: st, w) := q_iconst (jd_of jb_304 dX9_undo_1)
theorem p304_2 (lv : jmL) (st : List jmV) (w : jmW) (a : Nat) (x : Int) : rn 304 (2, lv, .inl x :: jvr a :: st, w) = jq_gs (mS w a) (1, 9, 0) 304 5 lv (st) (setI w a 0 x) := q_putf (jd_of jb_304 dX9_undo_2) jo_304 jk_9_54 (Or.inl rfl) rfl
theorem p304_5 (lv : jmL) (st : List jmV) (w : jmW) : rn 304 (5, lv, st, w) = jq_lda 304 6 lv st w (jg lv 0) := q_aload_n (jd_of jb_304 dX9_undo_5) rfl
theorem p304_6 (lv : jmL) (st : List jmV) (w : jmW) (a : Nat) : rn 304 (6, lv, jvr a :: st, w) = jq_gs (mS w a) (1, 9, 0) 304 9 lv (.inr (.inr (mR w a 3)) :: st) (w) := q_getf (v := fun w a => .inr (.inr (mR w a 3))) (jd_of jb_304 dX9_undo_6) jo_304 jk_9_389 (fun _ _ => rfl)
theorem p304_9n (lv : jmL) (st : List jmV) (w : jmW) : rn 304 (9, lv, .inr (.inr none) :: st, w) = rn 304 (19, lv, st, w) := q_ifnull_n (tgt := 19) (jd_of jb_304 dX9_undo_9) (by decide)
theorem p304_9s (lv : jmL) (st : List jmV) (w : jmW) (a : Nat) : rn 304 (9, lv, .inr (.inr (some a)) :: st, w) = rn 304 (12, lv, st, w) := q_ifnull_s (tgt := 19) (jd_of jb_304 dX9_undo_9) (by decide)
theorem p304_12 (lv : jmL) (st : List jmV) (w : jmW) : rn 304 (12, lv, st, w) = jq_lda 304 13 lv st w (jg lv 0) := q_aload_n (jd_of jb_304 dX9_undo_12) rfl
theorem p304_13 (lv : jmL) (st : List jmV) (w : jmW) (a : Nat) : rn 304 (13, lv, jvr a :: st, w) = jq_gs (mS w a) (1, 9, 0) 304 16 lv (.inl (mI w a 22) :: st) (w) := q_getf (v := fun w a => .inl (mI w a 22)) (jd_of jb_304 dX9_undo_13) jo_304 jk_9_395 (fun _ _ => rfl)
theorem p304_16 (lv : jmL) (st : List jmV) (w : jmW) (x : Int) : rn 304 (16, lv, .inl x :: st, w) = if jw x = 0 then rn 304 (19, lv, st, w) else rn 304 (26, lv, st, w) := q_if_ne (jd_of jb_304 dX9_undo_16) (by decide)
theorem p304_19 (lv : jmL) (st : List jmV) (w : jmW) : rn 304 (19, lv, st, w) = jq_lda 304 20 lv st w (jg lv 0) := q_aload_n (jd_of jb_304 dX9_undo_19) rfl
theorem p304_20 (lv : jmL) (st : List jmV) (w : jmW) : rn 304 (20, lv, st, w) = rn 304 (22, lv, .inl (6) :: st, w) := q_bipush (jd_of jb_304 dX9_undo_20) (by decide +kernel)
theorem p304_22 (lv : jmL) (st : List jmV) (w : jmW) (b : Nat) (x1 : Int) : rn 304 (22, lv, .inl x1 :: jvr b :: st, w) = jq_s (mS w b) (1, 9, 0) (jq_b (decide (jwd st ≤ 8)) (jq_c 304 25 lv st (rn 297 (0, [(0, jvr b), (1, .inl x1)], [], w)))) := q_callv (as := [.inl x1]) (rest := st) (jd_of jb_304 dX9_undo_22) jo_304 jk_9_585 rfl rfl rfl jo_297 jf_304_297 (Nat.le_of_ble_eq_true rfl)
theorem p304_25 (lv : jmL) (w : jmW) (x : Int) : rn 304 (25, lv, [.inl x], w) = jq_b (decide (x = 0 ∨ x = 1)) (some (some (.inl x), w)) := q_zreturn (jd_of jb_304 dX9_undo_25) jr_304
theorem p304_26 (lv : jmL) (st : List jmV) (w : jmW) : rn 304 (26, lv, st, w) = jq_lda 304 27 lv st w (jg lv 0) := q_aload_n (jd_of jb_304 dX9_undo_26) rfl
theorem p304_27i (lv : jmL) (st : List jmV) (w : jmW) (x : Int) : rn 304 (27, lv, .inl x :: st, w) = rn 304 (28, lv, .inl x :: .inl x :: st, w) := q_dup_i (jd_of jb_304 dX9_undo_27)
theorem p304_27a (lv : jmL) (st : List jmV) (w : jmW) (x : Option Nat) : rn 304 (27, lv, .inr (.inr x) :: st, w) = rn 304 (28, lv, .inr (.inr x) :: .inr (.inr x) :: st, w) := q_dup_a (jd_of jb_304 dX9_undo_27)
theorem p304_28 (lv : jmL) (st : List jmV) (w : jmW) (a : Nat) : rn 304 (28, lv, jvr a :: st, w) = jq_gs (mS w a) (1, 9, 0) 304 31 lv (.inl (mI w a 22) :: st) (w) := q_getf (v := fun w a => .inl (mI w a 22)) (jd_of jb_304 dX9_undo_28) jo_304 jk_9_395 (fun _ _ => rfl)
theorem p304_31 (lv : jmL) (st : List jmV) (w : jmW) : rn 304 (31, lv, st, w) = rn 304 (32, lv, .inl (1) :: st, w) := q_iconst (jd_of jb_304 dX9_undo_31)
theorem p304_32 (lv : jmL) (st : List jmV) (w : jmW) (x y : Int) : rn 304 (32, lv, .inl y :: .inl x :: st, w) = rn 304 (33, lv, .inl (x - y) :: st, w) := q_isub (jd_of jb_304 dX9_undo_32)
theorem p304_33 (lv : jmL) (st : List jmV) (w : jmW) (a : Nat) (x : Int) : rn 304 (33, lv, .inl x :: jvr a :: st, w) = jq_gs (mS w a) (1, 9, 0) 304 36 lv (st) (setI w a 22 x) := q_putf (jd_of jb_304 dX9_undo_33) jo_304 jk_9_395 (Or.inl rfl) rfl
theorem p304_36 (lv : jmL) (st : List jmV) (w : jmW) : rn 304 (36, lv, st, w) = rn 304 (37, lv, .inl (0) :: st, w) := q_iconst (jd_of jb_304 dX9_undo_36)
theorem p304_37 (lv : jmL) (st : List jmV) (w : jmW) (x : Int) : rn 304 (37, lv, .inl x :: st, w) = rn 304 (38, js lv 1 (.inl x), st, w) := q_istore_n (jd_of jb_304 dX9_undo_37) rfl (by rw [jm_304]; decide)
theorem p304_38 (lv : jmL) (st : List jmV) (w : jmW) : rn 304 (38, lv, st, w) = jq_ldi 304 39 lv st w (jg lv 1) := q_iload_n (jd_of jb_304 dX9_undo_38) rfl
theorem p304_39 (lv : jmL) (st : List jmV) (w : jmW) : rn 304 (39, lv, st, w) = rn 304 (42, lv, .inl (298) :: st, w) := q_sipush (jd_of jb_304 dX9_undo_39) (by decide +kernel)
theorem p304_42 (lv : jmL) (st : List jmV) (w : jmW) (x y : Int) : rn 304 (42, lv, .inl y :: .inl x :: st, w) = if jw x < jw y then rn 304 (45, lv, st, w) else rn 304 (72, lv, st, w) := q_icmp_ge (jd_of jb_304 dX9_undo_42) (by decide)
theorem p304_45 (lv : jmL) (st : List jmV) (w : jmW) : rn 304 (45, lv, st, w) = jq_lda 304 46 lv st w (jg lv 0) := q_aload_n (jd_of jb_304 dX9_undo_45) rfl
theorem p304_46 (lv : jmL) (st : List jmV) (w : jmW) (a : Nat) : rn 304 (46, lv, jvr a :: st, w) = jq_gs (mS w a) (1, 9, 0) 304 49 lv (.inr (.inr (mR w a 18)) :: st) (w) := q_getf (v := fun w a => .inr (.inr (mR w a 18))) (jd_of jb_304 dX9_undo_46) jo_304 jk_9_21 (fun _ _ => rfl)
theorem p304_49 (lv : jmL) (st : List jmV) (w : jmW) : rn 304 (49, lv, st, w) = jq_ldi 304 50 lv st w (jg lv 1) := q_iload_n (jd_of jb_304 dX9_undo_49) rfl
theorem p304_50 (lv : jmL) (st : List jmV) (w : jmW) : rn 304 (50, lv, st, w) = jq_lda 304 51 lv st w (jg lv 0) := q_aload_n (jd_of jb_304 dX9_undo_50) rfl
theorem p304_51 (lv : jmL) (st : List jmV) (w : jmW) (a : Nat) : rn 304 (51, lv, jvr a :: st, w) = jq_gs (mS w a) (1, 9, 0) 304 54 lv (.inr (.inr (mR w a 20)) :: st) (w) := q_getf (v := fun w a => .inr (.inr (mR w a 20))) (jd_of jb_304 dX9_undo_51) jo_304 jk_9_27 (fun _ _ => rfl)
theorem p304_54 (lv : jmL) (st : List jmV) (w : jmW) : rn 304 (54, lv, st, w) = rn 304 (57, lv, .inl (298) :: st, w) := q_sipush (jd_of jb_304 dX9_undo_54) (by decide +kernel)
theorem p304_57 (lv : jmL) (st : List jmV) (w : jmW) : rn 304 (57, lv, st, w) = jq_lda 304 58 lv st w (jg lv 0) := q_aload_n (jd_of jb_304 dX9_undo_57) rfl
theorem p304_58 (lv : jmL) (st : List jmV) (w : jmW) (a : Nat) : rn 304 (58, lv, jvr a :: st, w) = jq_gs (mS w a) (1, 9, 0) 304 61 lv (.inl (mI w a 22) :: st) (w) := q_getf (v := fun w a => .inl (mI w a 22)) (jd_of jb_304 dX9_undo_58) jo_304 jk_9_395 (fun _ _ => rfl)
theorem p304_61 (lv : jmL) (st : List jmV) (w : jmW) (x y : Int) : rn 304 (61, lv, .inl y :: .inl x :: st, w) = rn 304 (62, lv, .inl (x * y) :: st, w) := q_imul (jd_of jb_304 dX9_undo_61)
theorem p304_62 (lv : jmL) (st : List jmV) (w : jmW) : rn 304 (62, lv, st, w) = jq_ldi 304 63 lv st w (jg lv 1) := q_iload_n (jd_of jb_304 dX9_undo_62) rfl
theorem p304_63 (lv : jmL) (st : List jmV) (w : jmW) (x y : Int) : rn 304 (63, lv, .inl y :: .inl x :: st, w) = rn 304 (64, lv, .inl (x + y) :: st, w) := q_iadd (jd_of jb_304 dX9_undo_63)
theorem p304_64 (lv : jmL) (st : List jmV) (w : jmW) (a : Nat) (j : Int) : rn 304 (64, lv, .inl j :: jvr a :: st, w) = jq_gr (mS w a) 0 j 304 65 lv (.inl (mI w a (jix j)) :: st) (w) := q_iald (jd_of jb_304 dX9_undo_64)
theorem p304_65 (lv : jmL) (st : List jmV) (w : jmW) (a : Nat) (j x : Int) : rn 304 (65, lv, .inl x :: .inl j :: jvr a :: st, w) = jq_gw (mS w a) 0 j 304 66 lv (st) (setI w a (jix j) x) := q_iast (jd_of jb_304 dX9_undo_65)
theorem p304_66 (lv : jmL) (st : List jmV) (w : jmW) : rn 304 (66, lv, st, w) = jq_inc 304 69 lv 1 (1) st w (jg lv 1) := q_iinc (jd_of jb_304 dX9_undo_66) (by rw [jm_304]; decide)
theorem p304_69 (lv : jmL) (st : List jmV) (w : jmW) : rn 304 (69, lv, st, w) = rn 304 (38, lv, st, w) := q_goto (jd_of jb_304 dX9_undo_69) (by decide)
theorem p304_72 (lv : jmL) (st : List jmV) (w : jmW) : rn 304 (72, lv, st, w) = jq_lda 304 73 lv st w (jg lv 0) := q_aload_n (jd_of jb_304 dX9_undo_72) rfl
theorem p304_73 (lv : jmL) (st : List jmV) (w : jmW) (b : Nat) : rn 304 (73, lv, jvr b :: st, w) = jq_s (mS w b) (1, 9, 0) (jq_b (decide (jwd st ≤ 8)) (jq_c 304 76 lv st (rn 298 (0, [(0, jvr b)], [], w)))) := q_callv (as := []) (rest := st) (jd_of jb_304 dX9_undo_73) jo_304 jk_9_588 rfl rfl rfl jo_298 jf_304_298 (Nat.le_of_ble_eq_true rfl)
theorem p304_76 (lv : jmL) (w : jmW) (x : Int) : rn 304 (76, lv, [.inl x], w) = jq_b (decide (x = 0 ∨ x = 1)) (some (some (.inl x), w)) := q_zreturn (jd_of jb_304 dX9_undo_76) jr_304
theorem p305_0 (lv : jmL) (st : List jmV) (w : jmW) : rn 305 (0, lv, st, w) = jq_lda 305 1 lv st w (jg lv 0) := q_aload_n (jd_of jb_305 dX9_mark_0) rfl
theorem p305_1 (lv : jmL) (st : List jmV) (w : jmW) : rn 305 (1, lv, st, w) = rn 305 (2, lv, .inl (0) :: st, w) := q_iconst (jd_of jb_305 dX9_mark_1)
theorem p305_2 (lv : jmL) (st : List jmV) (w : jmW) (a : Nat) (x : Int) : rn 305 (2, lv, .inl x :: jvr a :: st, w) = jq_gs (mS w a) (1, 9, 0) 305 5 lv (st) (setI w a 0 x) := q_putf (jd_of jb_305 dX9_mark_2) jo_305 jk_9_54 (Or.inl rfl) rfl
theorem p305_5 (lv : jmL) (st : List jmV) (w : jmW) : rn 305 (5, lv, st, w) = jq_lda 305 6 lv st w (jg lv 0) := q_aload_n (jd_of jb_305 dX9_mark_5) rfl
theorem p305_6 (lv : jmL) (st : List jmV) (w : jmW) (a : Nat) : rn 305 (6, lv, jvr a :: st, w) = jq_gs (mS w a) (1, 9, 0) 305 9 lv (.inr (.inr (mR w a 3)) :: st) (w) := q_getf (v := fun w a => .inr (.inr (mR w a 3))) (jd_of jb_305 dX9_mark_6) jo_305 jk_9_389 (fun _ _ => rfl)
theorem p305_9n (lv : jmL) (st : List jmV) (w : jmW) : rn 305 (9, lv, .inr (.inr none) :: st, w) = rn 305 (12, lv, st, w) := q_ifnonnull_n (tgt := 18) (jd_of jb_305 dX9_mark_9) (by decide)
theorem p305_9s (lv : jmL) (st : List jmV) (w : jmW) (a : Nat) : rn 305 (9, lv, .inr (.inr (some a)) :: st, w) = rn 305 (18, lv, st, w) := q_ifnonnull_s (tgt := 18) (jd_of jb_305 dX9_mark_9) (by decide)
theorem p305_12 (lv : jmL) (st : List jmV) (w : jmW) : rn 305 (12, lv, st, w) = jq_lda 305 13 lv st w (jg lv 0) := q_aload_n (jd_of jb_305 dX9_mark_12) rfl
theorem p305_13 (lv : jmL) (st : List jmV) (w : jmW) : rn 305 (13, lv, st, w) = rn 305 (14, lv, .inl (1) :: st, w) := q_iconst (jd_of jb_305 dX9_mark_13)
theorem p305_14 (lv : jmL) (st : List jmV) (w : jmW) (b : Nat) (x1 : Int) : rn 305 (14, lv, .inl x1 :: jvr b :: st, w) = jq_s (mS w b) (1, 9, 0) (jq_b (decide (jwd st ≤ 8)) (jq_c 305 17 lv st (rn 176 (0, [(0, jvr b), (1, .inl x1)], [], w)))) := q_callv (as := [.inl x1]) (rest := st) (jd_of jb_305 dX9_mark_14) jo_305 jk_9_60 rfl rfl rfl jo_176 jf_305_176 (Nat.le_of_ble_eq_true rfl)
theorem p305_17 (lv : jmL) (w : jmW) (x : Int) : rn 305 (17, lv, [.inl x], w) = some (some (.inl x), w) := q_ireturn (jd_of jb_305 dX9_mark_17) jr_305
theorem p305_18 (lv : jmL) (st : List jmV) (w : jmW) : rn 305 (18, lv, st, w) = jq_lda 305 19 lv st w (jg lv 0) := q_aload_n (jd_of jb_305 dX9_mark_18) rfl
theorem p305_19 (lv : jmL) (st : List jmV) (w : jmW) (a : Nat) : rn 305 (19, lv, jvr a :: st, w) = jq_gs (mS w a) (1, 9, 0) 305 22 lv (.inl (mI w a 23) :: st) (w) := q_getf (v := fun w a => .inl (mI w a 23)) (jd_of jb_305 dX9_mark_19) jo_305 jk_9_398 (fun _ _ => rfl)
theorem p305_22 (lv : jmL) (st : List jmV) (w : jmW) : rn 305 (22, lv, st, w) = rn 305 (23, lv, .inl (3) :: st, w) := q_iconst (jd_of jb_305 dX9_mark_22)
theorem p305_23 (lv : jmL) (st : List jmV) (w : jmW) (x y : Int) : rn 305 (23, lv, .inl y :: .inl x :: st, w) = if jw x = jw y then rn 305 (26, lv, st, w) else rn 305 (32, lv, st, w) := q_icmp_ne (jd_of jb_305 dX9_mark_23) (by decide)
theorem p305_26 (lv : jmL) (st : List jmV) (w : jmW) : rn 305 (26, lv, st, w) = jq_lda 305 27 lv st w (jg lv 0) := q_aload_n (jd_of jb_305 dX9_mark_26) rfl
theorem p305_27 (lv : jmL) (st : List jmV) (w : jmW) : rn 305 (27, lv, st, w) = rn 305 (28, lv, .inl (3) :: st, w) := q_iconst (jd_of jb_305 dX9_mark_27)
theorem p305_28 (lv : jmL) (st : List jmV) (w : jmW) (b : Nat) (x1 : Int) : rn 305 (28, lv, .inl x1 :: jvr b :: st, w) = jq_s (mS w b) (1, 9, 0) (jq_b (decide (jwd st ≤ 8)) (jq_c 305 31 lv st (rn 176 (0, [(0, jvr b), (1, .inl x1)], [], w)))) := q_callv (as := [.inl x1]) (rest := st) (jd_of jb_305 dX9_mark_28) jo_305 jk_9_60 rfl rfl rfl jo_176 jf_305_176 (Nat.le_of_ble_eq_true rfl)
theorem p305_31 (lv : jmL) (w : jmW) (x : Int) : rn 305 (31, lv, [.inl x], w) = some (some (.inl x), w) := q_ireturn (jd_of jb_305 dX9_mark_31) jr_305
theorem p305_32 (lv : jmL) (st : List jmV) (w : jmW) : rn 305 (32, lv, st, w) = rn 305 (33, lv, .inl (0) :: st, w) := q_iconst (jd_of jb_305 dX9_mark_32)
theorem p305_33 (lv : jmL) (st : List jmV) (w : jmW) (x : Int) : rn 305 (33, lv, .inl x :: st, w) = rn 305 (34, js lv 1 (.inl x), st, w) := q_istore_n (jd_of jb_305 dX9_mark_33) rfl (by rw [jm_305]; decide)
theorem p305_34 (lv : jmL) (st : List jmV) (w : jmW) : rn 305 (34, lv, st, w) = jq_ldi 305 35 lv st w (jg lv 1) := q_iload_n (jd_of jb_305 dX9_mark_34) rfl
theorem p305_35 (lv : jmL) (st : List jmV) (w : jmW) : rn 305 (35, lv, st, w) = rn 305 (38, lv, .inl (298) :: st, w) := q_sipush (jd_of jb_305 dX9_mark_35) (by decide +kernel)
theorem p305_38 (lv : jmL) (st : List jmV) (w : jmW) (x y : Int) : rn 305 (38, lv, .inl y :: .inl x :: st, w) = if jw x < jw y then rn 305 (41, lv, st, w) else rn 305 (68, lv, st, w) := q_icmp_ge (jd_of jb_305 dX9_mark_38) (by decide)
theorem p305_41 (lv : jmL) (st : List jmV) (w : jmW) : rn 305 (41, lv, st, w) = jq_lda 305 42 lv st w (jg lv 0) := q_aload_n (jd_of jb_305 dX9_mark_41) rfl
theorem p305_42 (lv : jmL) (st : List jmV) (w : jmW) (a : Nat) : rn 305 (42, lv, jvr a :: st, w) = jq_gs (mS w a) (1, 9, 0) 305 45 lv (.inr (.inr (mR w a 21)) :: st) (w) := q_getf (v := fun w a => .inr (.inr (mR w a 21))) (jd_of jb_305 dX9_mark_42) jo_305 jk_9_30 (fun _ _ => rfl)
theorem p305_45 (lv : jmL) (st : List jmV) (w : jmW) : rn 305 (45, lv, st, w) = rn 305 (48, lv, .inl (298) :: st, w) := q_sipush (jd_of jb_305 dX9_mark_45) (by decide +kernel)
theorem p305_48 (lv : jmL) (st : List jmV) (w : jmW) : rn 305 (48, lv, st, w) = jq_lda 305 49 lv st w (jg lv 0) := q_aload_n (jd_of jb_305 dX9_mark_48) rfl
theorem p305_49 (lv : jmL) (st : List jmV) (w : jmW) (a : Nat) : rn 305 (49, lv, jvr a :: st, w) = jq_gs (mS w a) (1, 9, 0) 305 52 lv (.inl (mI w a 23) :: st) (w) := q_getf (v := fun w a => .inl (mI w a 23)) (jd_of jb_305 dX9_mark_49) jo_305 jk_9_398 (fun _ _ => rfl)
theorem p305_52 (lv : jmL) (st : List jmV) (w : jmW) (x y : Int) : rn 305 (52, lv, .inl y :: .inl x :: st, w) = rn 305 (53, lv, .inl (x * y) :: st, w) := q_imul (jd_of jb_305 dX9_mark_52)
theorem p305_53 (lv : jmL) (st : List jmV) (w : jmW) : rn 305 (53, lv, st, w) = jq_ldi 305 54 lv st w (jg lv 1) := q_iload_n (jd_of jb_305 dX9_mark_53) rfl
theorem p305_54 (lv : jmL) (st : List jmV) (w : jmW) (x y : Int) : rn 305 (54, lv, .inl y :: .inl x :: st, w) = rn 305 (55, lv, .inl (x + y) :: st, w) := q_iadd (jd_of jb_305 dX9_mark_54)
theorem p305_55 (lv : jmL) (st : List jmV) (w : jmW) : rn 305 (55, lv, st, w) = jq_lda 305 56 lv st w (jg lv 0) := q_aload_n (jd_of jb_305 dX9_mark_55) rfl
theorem p305_56 (lv : jmL) (st : List jmV) (w : jmW) (a : Nat) : rn 305 (56, lv, jvr a :: st, w) = jq_gs (mS w a) (1, 9, 0) 305 59 lv (.inr (.inr (mR w a 18)) :: st) (w) := q_getf (v := fun w a => .inr (.inr (mR w a 18))) (jd_of jb_305 dX9_mark_56) jo_305 jk_9_21 (fun _ _ => rfl)
theorem p305_59 (lv : jmL) (st : List jmV) (w : jmW) : rn 305 (59, lv, st, w) = jq_ldi 305 60 lv st w (jg lv 1) := q_iload_n (jd_of jb_305 dX9_mark_59) rfl
theorem p305_60 (lv : jmL) (st : List jmV) (w : jmW) (a : Nat) (j : Int) : rn 305 (60, lv, .inl j :: jvr a :: st, w) = jq_gr (mS w a) 0 j 305 61 lv (.inl (mI w a (jix j)) :: st) (w) := q_iald (jd_of jb_305 dX9_mark_60)
theorem p305_61 (lv : jmL) (st : List jmV) (w : jmW) (a : Nat) (j x : Int) : rn 305 (61, lv, .inl x :: .inl j :: jvr a :: st, w) = jq_gw (mS w a) 0 j 305 62 lv (st) (setI w a (jix j) x) := q_iast (jd_of jb_305 dX9_mark_61)
theorem p305_62 (lv : jmL) (st : List jmV) (w : jmW) : rn 305 (62, lv, st, w) = jq_inc 305 65 lv 1 (1) st w (jg lv 1) := q_iinc (jd_of jb_305 dX9_mark_62) (by rw [jm_305]; decide)
theorem p305_65 (lv : jmL) (st : List jmV) (w : jmW) : rn 305 (65, lv, st, w) = rn 305 (34, lv, st, w) := q_goto (jd_of jb_305 dX9_mark_65) (by decide)
theorem p305_68 (lv : jmL) (st : List jmV) (w : jmW) : rn 305 (68, lv, st, w) = jq_lda 305 69 lv st w (jg lv 0) := q_aload_n (jd_of jb_305 dX9_mark_68) rfl
theorem p305_69i (lv : jmL) (st : List jmV) (w : jmW) (x : Int) : rn 305 (69, lv, .inl x :: st, w) = rn 305 (70, lv, .inl x :: .inl x :: st, w) := q_dup_i (jd_of jb_305 dX9_mark_69)
theorem p305_69a (lv : jmL) (st : List jmV) (w : jmW) (x : Option Nat) : rn 305 (69, lv, .inr (.inr x) :: st, w) = rn 305 (70, lv, .inr (.inr x) :: .inr (.inr x) :: st, w) := q_dup_a (jd_of jb_305 dX9_mark_69)
theorem p305_70 (lv : jmL) (st : List jmV) (w : jmW) (a : Nat) : rn 305 (70, lv, jvr a :: st, w) = jq_gs (mS w a) (1, 9, 0) 305 73 lv (.inl (mI w a 23) :: st) (w) := q_getf (v := fun w a => .inl (mI w a 23)) (jd_of jb_305 dX9_mark_70) jo_305 jk_9_398 (fun _ _ => rfl)
theorem p305_73 (lv : jmL) (st : List jmV) (w : jmW) : rn 305 (73, lv, st, w) = rn 305 (74, lv, .inl (1) :: st, w) := q_iconst (jd_of jb_305 dX9_mark_73)
theorem p305_74 (lv : jmL) (st : List jmV) (w : jmW) (x y : Int) : rn 305 (74, lv, .inl y :: .inl x :: st, w) = rn 305 (75, lv, .inl (x + y) :: st, w) := q_iadd (jd_of jb_305 dX9_mark_74)
theorem p305_75 (lv : jmL) (st : List jmV) (w : jmW) (a : Nat) (x : Int) : rn 305 (75, lv, .inl x :: jvr a :: st, w) = jq_gs (mS w a) (1, 9, 0) 305 78 lv (st) (setI w a 23 x) := q_putf (jd_of jb_305 dX9_mark_75) jo_305 jk_9_398 (Or.inl rfl) rfl
theorem p305_78 (lv : jmL) (st : List jmV) (w : jmW) : rn 305 (78, lv, st, w) = jq_lda 305 79 lv st w (jg lv 0) := q_aload_n (jd_of jb_305 dX9_mark_78) rfl
theorem p305_79 (lv : jmL) (st : List jmV) (w : jmW) : rn 305 (79, lv, st, w) = jq_lda 305 80 lv st w (jg lv 0) := q_aload_n (jd_of jb_305 dX9_mark_79) rfl
theorem p305_80 (lv : jmL) (st : List jmV) (w : jmW) (a : Nat) : rn 305 (80, lv, jvr a :: st, w) = jq_gs (mS w a) (1, 9, 0) 305 83 lv (.inl (mI w a 23) :: st) (w) := q_getf (v := fun w a => .inl (mI w a 23)) (jd_of jb_305 dX9_mark_80) jo_305 jk_9_398 (fun _ _ => rfl)
theorem p305_83 (lv : jmL) (st : List jmV) (w : jmW) : rn 305 (83, lv, st, w) = rn 305 (84, lv, .inl (1) :: st, w) := q_iconst (jd_of jb_305 dX9_mark_83)
theorem p305_84 (lv : jmL) (st : List jmV) (w : jmW) (x y : Int) : rn 305 (84, lv, .inl y :: .inl x :: st, w) = rn 305 (85, lv, .inl (x - y) :: st, w) := q_isub (jd_of jb_305 dX9_mark_84)
theorem p305_85 (lv : jmL) (st : List jmV) (w : jmW) (b : Nat) (x1 : Int) : rn 305 (85, lv, .inl x1 :: jvr b :: st, w) = jq_s (mS w b) (1, 9, 0) (jq_b (decide (jwd st ≤ 8)) (jq_c 305 88 lv st (rn 213 (0, [(0, jvr b), (1, .inl x1)], [], w)))) := q_callv (as := [.inl x1]) (rest := st) (jd_of jb_305 dX9_mark_85) jo_305 jk_9_64 rfl rfl rfl jo_213 jf_305_213 (Nat.le_of_ble_eq_true rfl)
theorem p305_88 (lv : jmL) (w : jmW) (x : Int) : rn 305 (88, lv, [.inl x], w) = some (some (.inl x), w) := q_ireturn (jd_of jb_305 dX9_mark_88) jr_305
theorem p306_0 (lv : jmL) (st : List jmV) (w : jmW) : rn 306 (0, lv, st, w) = jq_lda 306 1 lv st w (jg lv 0) := q_aload_n (jd_of jb_306 dX9_back_0) rfl
theorem p306_1 (lv : jmL) (st : List jmV) (w : jmW) : rn 306 (1, lv, st, w) = rn 306 (2, lv, .inl (0) :: st, w) := q_iconst (jd_of jb_306 dX9_back_1)
theorem p306_2 (lv : jmL) (st : List jmV) (w : jmW) (a : Nat) (x : Int) : rn 306 (2, lv, .inl x :: jvr a :: st, w) = jq_gs (mS w a) (1, 9, 0) 306 5 lv (st) (setI w a 0 x) := q_putf (jd_of jb_306 dX9_back_2) jo_306 jk_9_54 (Or.inl rfl) rfl
theorem p306_5 (lv : jmL) (st : List jmV) (w : jmW) : rn 306 (5, lv, st, w) = jq_lda 306 6 lv st w (jg lv 0) := q_aload_n (jd_of jb_306 dX9_back_5) rfl
theorem p306_6 (lv : jmL) (st : List jmV) (w : jmW) (a : Nat) : rn 306 (6, lv, jvr a :: st, w) = jq_gs (mS w a) (1, 9, 0) 306 9 lv (.inr (.inr (mR w a 3)) :: st) (w) := q_getf (v := fun w a => .inr (.inr (mR w a 3))) (jd_of jb_306 dX9_back_6) jo_306 jk_9_389 (fun _ _ => rfl)
theorem p306_9n (lv : jmL) (st : List jmV) (w : jmW) : rn 306 (9, lv, .inr (.inr none) :: st, w) = rn 306 (24, lv, st, w) := q_ifnull_n (tgt := 24) (jd_of jb_306 dX9_back_9) (by decide)
theorem p306_9s (lv : jmL) (st : List jmV) (w : jmW) (a : Nat) : rn 306 (9, lv, .inr (.inr (some a)) :: st, w) = rn 306 (12, lv, st, w) := q_ifnull_s (tgt := 24) (jd_of jb_306 dX9_back_9) (by decide)
theorem p306_12 (lv : jmL) (st : List jmV) (w : jmW) : rn 306 (12, lv, st, w) = jq_ldi 306 13 lv st w (jg lv 1) := q_iload_n (jd_of jb_306 dX9_back_12) rfl
theorem p306_13 (lv : jmL) (st : List jmV) (w : jmW) (x : Int) : rn 306 (13, lv, .inl x :: st, w) = if jw x < 0 then rn 306 (24, lv, st, w) else rn 306 (16, lv, st, w) := q_if_lt (jd_of jb_306 dX9_back_13) (by decide)
theorem p306_16 (lv : jmL) (st : List jmV) (w : jmW) : rn 306 (16, lv, st, w) = jq_ldi 306 17 lv st w (jg lv 1) := q_iload_n (jd_of jb_306 dX9_back_16) rfl
theorem p306_17 (lv : jmL) (st : List jmV) (w : jmW) : rn 306 (17, lv, st, w) = jq_lda 306 18 lv st w (jg lv 0) := q_aload_n (jd_of jb_306 dX9_back_17) rfl
theorem p306_18 (lv : jmL) (st : List jmV) (w : jmW) (a : Nat) : rn 306 (18, lv, jvr a :: st, w) = jq_gs (mS w a) (1, 9, 0) 306 21 lv (.inl (mI w a 23) :: st) (w) := q_getf (v := fun w a => .inl (mI w a 23)) (jd_of jb_306 dX9_back_18) jo_306 jk_9_398 (fun _ _ => rfl)
theorem p306_21 (lv : jmL) (st : List jmV) (w : jmW) (x y : Int) : rn 306 (21, lv, .inl y :: .inl x :: st, w) = if jw x < jw y then rn 306 (30, lv, st, w) else rn 306 (24, lv, st, w) := q_icmp_lt (jd_of jb_306 dX9_back_21) (by decide)
theorem p306_24 (lv : jmL) (st : List jmV) (w : jmW) : rn 306 (24, lv, st, w) = jq_lda 306 25 lv st w (jg lv 0) := q_aload_n (jd_of jb_306 dX9_back_24) rfl
theorem p306_25 (lv : jmL) (st : List jmV) (w : jmW) : rn 306 (25, lv, st, w) = rn 306 (26, lv, .inl (1) :: st, w) := q_iconst (jd_of jb_306 dX9_back_25)
theorem p306_26 (lv : jmL) (st : List jmV) (w : jmW) (b : Nat) (x1 : Int) : rn 306 (26, lv, .inl x1 :: jvr b :: st, w) = jq_s (mS w b) (1, 9, 0) (jq_b (decide (jwd st ≤ 8)) (jq_c 306 29 lv st (rn 297 (0, [(0, jvr b), (1, .inl x1)], [], w)))) := q_callv (as := [.inl x1]) (rest := st) (jd_of jb_306 dX9_back_26) jo_306 jk_9_585 rfl rfl rfl jo_297 jf_306_297 (Nat.le_of_ble_eq_true rfl)
theorem p306_29 (lv : jmL) (w : jmW) (x : Int) : rn 306 (29, lv, [.inl x], w) = jq_b (decide (x = 0 ∨ x = 1)) (some (some (.inl x), w)) := q_zreturn (jd_of jb_306 dX9_back_29) jr_306
theorem p306_30 (lv : jmL) (st : List jmV) (w : jmW) : rn 306 (30, lv, st, w) = rn 306 (31, lv, .inl (0) :: st, w) := q_iconst (jd_of jb_306 dX9_back_30)
theorem p306_31 (lv : jmL) (st : List jmV) (w : jmW) (x : Int) : rn 306 (31, lv, .inl x :: st, w) = rn 306 (32, js lv 2 (.inl x), st, w) := q_istore_n (jd_of jb_306 dX9_back_31) rfl (by rw [jm_306]; decide)
theorem p306_32 (lv : jmL) (st : List jmV) (w : jmW) : rn 306 (32, lv, st, w) = jq_ldi 306 33 lv st w (jg lv 2) := q_iload_n (jd_of jb_306 dX9_back_32) rfl
theorem p306_33 (lv : jmL) (st : List jmV) (w : jmW) : rn 306 (33, lv, st, w) = rn 306 (36, lv, .inl (298) :: st, w) := q_sipush (jd_of jb_306 dX9_back_33) (by decide +kernel)
theorem p306_36 (lv : jmL) (st : List jmV) (w : jmW) (x y : Int) : rn 306 (36, lv, .inl y :: .inl x :: st, w) = if jw x < jw y then rn 306 (39, lv, st, w) else rn 306 (63, lv, st, w) := q_icmp_ge (jd_of jb_306 dX9_back_36) (by decide)
theorem p306_39 (lv : jmL) (st : List jmV) (w : jmW) : rn 306 (39, lv, st, w) = jq_lda 306 40 lv st w (jg lv 0) := q_aload_n (jd_of jb_306 dX9_back_39) rfl
theorem p306_40 (lv : jmL) (st : List jmV) (w : jmW) (a : Nat) : rn 306 (40, lv, jvr a :: st, w) = jq_gs (mS w a) (1, 9, 0) 306 43 lv (.inr (.inr (mR w a 18)) :: st) (w) := q_getf (v := fun w a => .inr (.inr (mR w a 18))) (jd_of jb_306 dX9_back_40) jo_306 jk_9_21 (fun _ _ => rfl)
theorem p306_43 (lv : jmL) (st : List jmV) (w : jmW) : rn 306 (43, lv, st, w) = jq_ldi 306 44 lv st w (jg lv 2) := q_iload_n (jd_of jb_306 dX9_back_43) rfl
theorem p306_44 (lv : jmL) (st : List jmV) (w : jmW) : rn 306 (44, lv, st, w) = jq_lda 306 45 lv st w (jg lv 0) := q_aload_n (jd_of jb_306 dX9_back_44) rfl
theorem p306_45 (lv : jmL) (st : List jmV) (w : jmW) (a : Nat) : rn 306 (45, lv, jvr a :: st, w) = jq_gs (mS w a) (1, 9, 0) 306 48 lv (.inr (.inr (mR w a 21)) :: st) (w) := q_getf (v := fun w a => .inr (.inr (mR w a 21))) (jd_of jb_306 dX9_back_45) jo_306 jk_9_30 (fun _ _ => rfl)
theorem p306_48 (lv : jmL) (st : List jmV) (w : jmW) : rn 306 (48, lv, st, w) = rn 306 (51, lv, .inl (298) :: st, w) := q_sipush (jd_of jb_306 dX9_back_48) (by decide +kernel)
theorem p306_51 (lv : jmL) (st : List jmV) (w : jmW) : rn 306 (51, lv, st, w) = jq_ldi 306 52 lv st w (jg lv 1) := q_iload_n (jd_of jb_306 dX9_back_51) rfl
theorem p306_52 (lv : jmL) (st : List jmV) (w : jmW) (x y : Int) : rn 306 (52, lv, .inl y :: .inl x :: st, w) = rn 306 (53, lv, .inl (x * y) :: st, w) := q_imul (jd_of jb_306 dX9_back_52)
theorem p306_53 (lv : jmL) (st : List jmV) (w : jmW) : rn 306 (53, lv, st, w) = jq_ldi 306 54 lv st w (jg lv 2) := q_iload_n (jd_of jb_306 dX9_back_53) rfl
theorem p306_54 (lv : jmL) (st : List jmV) (w : jmW) (x y : Int) : rn 306 (54, lv, .inl y :: .inl x :: st, w) = rn 306 (55, lv, .inl (x + y) :: st, w) := q_iadd (jd_of jb_306 dX9_back_54)
theorem p306_55 (lv : jmL) (st : List jmV) (w : jmW) (a : Nat) (j : Int) : rn 306 (55, lv, .inl j :: jvr a :: st, w) = jq_gr (mS w a) 0 j 306 56 lv (.inl (mI w a (jix j)) :: st) (w) := q_iald (jd_of jb_306 dX9_back_55)
theorem p306_56 (lv : jmL) (st : List jmV) (w : jmW) (a : Nat) (j x : Int) : rn 306 (56, lv, .inl x :: .inl j :: jvr a :: st, w) = jq_gw (mS w a) 0 j 306 57 lv (st) (setI w a (jix j) x) := q_iast (jd_of jb_306 dX9_back_56)
theorem p306_57 (lv : jmL) (st : List jmV) (w : jmW) : rn 306 (57, lv, st, w) = jq_inc 306 60 lv 2 (1) st w (jg lv 2) := q_iinc (jd_of jb_306 dX9_back_57) (by rw [jm_306]; decide)
theorem p306_60 (lv : jmL) (st : List jmV) (w : jmW) : rn 306 (60, lv, st, w) = rn 306 (32, lv, st, w) := q_goto (jd_of jb_306 dX9_back_60) (by decide)
theorem p306_63 (lv : jmL) (st : List jmV) (w : jmW) : rn 306 (63, lv, st, w) = jq_lda 306 64 lv st w (jg lv 0) := q_aload_n (jd_of jb_306 dX9_back_63) rfl
theorem p306_64 (lv : jmL) (st : List jmV) (w : jmW) : rn 306 (64, lv, st, w) = rn 306 (65, lv, .inl (0) :: st, w) := q_iconst (jd_of jb_306 dX9_back_64)
theorem p306_65 (lv : jmL) (st : List jmV) (w : jmW) (a : Nat) (x : Int) : rn 306 (65, lv, .inl x :: jvr a :: st, w) = jq_gs (mS w a) (1, 9, 0) 306 68 lv (st) (setI w a 22 x) := q_putf (jd_of jb_306 dX9_back_65) jo_306 jk_9_395 (Or.inl rfl) rfl
theorem p306_68 (lv : jmL) (st : List jmV) (w : jmW) : rn 306 (68, lv, st, w) = jq_lda 306 69 lv st w (jg lv 0) := q_aload_n (jd_of jb_306 dX9_back_68) rfl
theorem p306_69 (lv : jmL) (st : List jmV) (w : jmW) (b : Nat) : rn 306 (69, lv, jvr b :: st, w) = jq_s (mS w b) (1, 9, 0) (jq_b (decide (jwd st ≤ 8)) (jq_c 306 72 lv st (rn 298 (0, [(0, jvr b)], [], w)))) := q_callv (as := []) (rest := st) (jd_of jb_306 dX9_back_69) jo_306 jk_9_588 rfl rfl rfl jo_298 jf_306_298 (Nat.le_of_ble_eq_true rfl)
theorem p306_72 (lv : jmL) (w : jmW) (x : Int) : rn 306 (72, lv, [.inl x], w) = jq_b (decide (x = 0 ∨ x = 1)) (some (some (.inl x), w)) := q_zreturn (jd_of jb_306 dX9_back_72) jr_306
theorem p307_0 (lv : jmL) (st : List jmV) (w : jmW) : rn 307 (0, lv, st, w) = jq_lda 307 1 lv st w (jg lv 0) := q_aload_n (jd_of jb_307 dX9_table_0) rfl
theorem p307_1 (lv : jmL) (st : List jmV) (w : jmW) : rn 307 (1, lv, st, w) = rn 307 (2, lv, .inl (0) :: st, w) := q_iconst (jd_of jb_307 dX9_table_1)
theorem p307_2 (lv : jmL) (st : List jmV) (w : jmW) (a : Nat) (x : Int) : rn 307 (2, lv, .inl x :: jvr a :: st, w) = jq_gs (mS w a) (1, 9, 0) 307 5 lv (st) (setI w a 0 x) := q_putf (jd_of jb_307 dX9_table_2) jo_307 jk_9_54 (Or.inl rfl) rfl
theorem p307_5 (lv : jmL) (st : List jmV) (w : jmW) : rn 307 (5, lv, st, w) = jq_lda 307 6 lv st w (jg lv 0) := q_aload_n (jd_of jb_307 dX9_table_5) rfl
theorem p307_6 (lv : jmL) (st : List jmV) (w : jmW) : rn 307 (6, lv, st, w) = jq_ldi 307 7 lv st w (jg lv 1) := q_iload_n (jd_of jb_307 dX9_table_6) rfl
theorem p307_7 (lv : jmL) (st : List jmV) (w : jmW) (b : Nat) (x1 : Int) : rn 307 (7, lv, .inl x1 :: jvr b :: st, w) = jq_s (mS w b) (1, 9, 0) (jq_b (decide (jwd st ≤ 8)) (jq_c 307 10 lv st (rn 230 (0, [(0, jvr b), (1, .inl x1)], [], w)))) := q_callv (as := [.inl x1]) (rest := st) (jd_of jb_307 dX9_table_7) jo_307 jk_9_514 rfl rfl rfl jo_230 jf_307_230 (Nat.le_of_ble_eq_true rfl)
theorem p307_10 (lv : jmL) (st : List jmV) (w : jmW) (x : Int) : rn 307 (10, lv, .inl x :: st, w) = if jw x = 0 then rn 307 (22, lv, st, w) else rn 307 (13, lv, st, w) := q_if_eq (jd_of jb_307 dX9_table_10) (by decide)
theorem p307_13 (lv : jmL) (st : List jmV) (w : jmW) : rn 307 (13, lv, st, w) = jq_ldi 307 14 lv st w (jg lv 2) := q_iload_n (jd_of jb_307 dX9_table_13) rfl
theorem p307_14 (lv : jmL) (st : List jmV) (w : jmW) : rn 307 (14, lv, st, w) = rn 307 (15, lv, .inl (0) :: st, w) := q_iconst (jd_of jb_307 dX9_table_14)
theorem p307_15 (lv : jmL) (st : List jmV) (w : jmW) : rn 307 (15, lv, st, w) = rn 307 (16, lv, .inl (4) :: st, w) := q_iconst (jd_of jb_307 dX9_table_15)
theorem p307_16 (lv : jmL) (st : List jmV) (w : jmW) (x1 : Int) (x2 : Int) (x3 : Int) : rn 307 (16, lv, .inl x3 :: .inl x2 :: .inl x1 :: st, w) = jq_b (decide (jwd st ≤ 8)) (jq_c 307 19 lv st (rn 192 (0, [(0, .inl x1), (1, .inl x2), (2, .inl x3)], [], w))) := q_calls (as := [.inl x1, .inl x2, .inl x3]) (rest := st) (jd_of jb_307 dX9_table_16) jo_307 jk_9_135 rfl rfl rfl jf_307_192 (Nat.le_of_ble_eq_true rfl)
theorem p307_19 (lv : jmL) (st : List jmV) (w : jmW) (x : Int) : rn 307 (19, lv, .inl x :: st, w) = if jw x = 0 then rn 307 (22, lv, st, w) else rn 307 (28, lv, st, w) := q_if_ne (jd_of jb_307 dX9_table_19) (by decide)
theorem p307_22 (lv : jmL) (st : List jmV) (w : jmW) : rn 307 (22, lv, st, w) = jq_lda 307 23 lv st w (jg lv 0) := q_aload_n (jd_of jb_307 dX9_table_22) rfl
theorem p307_23 (lv : jmL) (st : List jmV) (w : jmW) : rn 307 (23, lv, st, w) = rn 307 (24, lv, .inl (1) :: st, w) := q_iconst (jd_of jb_307 dX9_table_23)
theorem p307_24 (lv : jmL) (st : List jmV) (w : jmW) (b : Nat) (x1 : Int) : rn 307 (24, lv, .inl x1 :: jvr b :: st, w) = jq_s (mS w b) (1, 9, 0) (jq_b (decide (jwd st ≤ 8)) (jq_c 307 27 lv st (rn 176 (0, [(0, jvr b), (1, .inl x1)], [], w)))) := q_callv (as := [.inl x1]) (rest := st) (jd_of jb_307 dX9_table_24) jo_307 jk_9_60 rfl rfl rfl jo_176 jf_307_176 (Nat.le_of_ble_eq_true rfl)
theorem p307_27 (lv : jmL) (w : jmW) (x : Int) : rn 307 (27, lv, [.inl x], w) = some (some (.inl x), w) := q_ireturn (jd_of jb_307 dX9_table_27) jr_307
theorem p307_28 (lv : jmL) (st : List jmV) (w : jmW) : rn 307 (28, lv, st, w) = jq_ldi 307 29 lv st w (jg lv 2) := q_iload_n (jd_of jb_307 dX9_table_28) rfl
theorem p307_29 (lv : jmL) (st : List jmV) (w : jmW) (x : Int) : rn 307 (29, lv, .inl x :: st, w) = if jw x = 0 then rn 307 (60, lv, st, w) else if jw x = 1 then rn 307 (74, lv, st, w) else if jw x = 2 then rn 307 (88, lv, st, w) else if jw x = 3 then rn 307 (102, lv, st, w) else rn 307 (116, lv, st, w) := by
  by_cases h0 : jw x = 0
  · rw [if_pos h0]; exact q_table (jd_of jb_307 dX9_table_29) (by omega) (by omega) (off := 31) (by rw [h0]; rfl) (by decide)
  rw [if_neg h0]
  by_cases h1 : jw x = 1
  · rw [if_pos h1]; exact q_table (jd_of jb_307 dX9_table_29) (by omega) (by omega) (off := 45) (by rw [h1]; rfl) (by decide)
  rw [if_neg h1]
  by_cases h2 : jw x = 2
  · rw [if_pos h2]; exact q_table (jd_of jb_307 dX9_table_29) (by omega) (by omega) (off := 59) (by rw [h2]; rfl) (by decide)
  rw [if_neg h2]
  by_cases h3 : jw x = 3
  · rw [if_pos h3]; exact q_table (jd_of jb_307 dX9_table_29) (by omega) (by omega) (off := 73) (by rw [h3]; rfl) (by decide)
  rw [if_neg h3]
  exact q_tabled (jd_of jb_307 dX9_table_29) (by omega) (by decide)
theorem p307_60 (lv : jmL) (st : List jmV) (w : jmW) : rn 307 (60, lv, st, w) = jq_lda 307 61 lv st w (jg lv 0) := q_aload_n (jd_of jb_307 dX9_table_60) rfl
theorem p307_61 (lv : jmL) (st : List jmV) (w : jmW) : rn 307 (61, lv, st, w) = jq_lda 307 62 lv st w (jg lv 0) := q_aload_n (jd_of jb_307 dX9_table_61) rfl
theorem p307_62 (lv : jmL) (st : List jmV) (w : jmW) (a : Nat) : rn 307 (62, lv, jvr a :: st, w) = jq_gs (mS w a) (1, 9, 0) 307 65 lv (.inr (.inr (mR w a 3)) :: st) (w) := q_getf (v := fun w a => .inr (.inr (mR w a 3))) (jd_of jb_307 dX9_table_62) jo_307 jk_9_389 (fun _ _ => rfl)
theorem p307_65 (lv : jmL) (st : List jmV) (w : jmW) (a : Nat) : rn 307 (65, lv, jvr a :: st, w) = jq_gs (mS w a) (1, 8, 0) 307 68 lv (.inr (.inr (mR w a 18)) :: st) (w) := q_getf (v := fun w a => .inr (.inr (mR w a 18))) (jd_of jb_307 dX9_table_65) jo_307 jk_9_335 (fun _ _ => rfl)
theorem p307_68 (lv : jmL) (st : List jmV) (w : jmW) : rn 307 (68, lv, st, w) = jq_ldi 307 69 lv st w (jg lv 1) := q_iload_n (jd_of jb_307 dX9_table_68) rfl
theorem p307_69 (lv : jmL) (st : List jmV) (w : jmW) (a : Nat) (j : Int) : rn 307 (69, lv, .inl j :: jvr a :: st, w) = jq_gr (mS w a) 0 j 307 70 lv (.inl (mI w a (jix j)) :: st) (w) := q_iald (jd_of jb_307 dX9_table_69)
theorem p307_70 (lv : jmL) (st : List jmV) (w : jmW) (b : Nat) (x1 : Int) : rn 307 (70, lv, .inl x1 :: jvr b :: st, w) = jq_s (mS w b) (1, 9, 0) (jq_b (decide (jwd st ≤ 8)) (jq_c 307 73 lv st (rn 213 (0, [(0, jvr b), (1, .inl x1)], [], w)))) := q_callv (as := [.inl x1]) (rest := st) (jd_of jb_307 dX9_table_70) jo_307 jk_9_64 rfl rfl rfl jo_213 jf_307_213 (Nat.le_of_ble_eq_true rfl)
theorem p307_73 (lv : jmL) (w : jmW) (x : Int) : rn 307 (73, lv, [.inl x], w) = some (some (.inl x), w) := q_ireturn (jd_of jb_307 dX9_table_73) jr_307
theorem p307_74 (lv : jmL) (st : List jmV) (w : jmW) : rn 307 (74, lv, st, w) = jq_lda 307 75 lv st w (jg lv 0) := q_aload_n (jd_of jb_307 dX9_table_74) rfl
theorem p307_75 (lv : jmL) (st : List jmV) (w : jmW) : rn 307 (75, lv, st, w) = jq_lda 307 76 lv st w (jg lv 0) := q_aload_n (jd_of jb_307 dX9_table_75) rfl
theorem p307_76 (lv : jmL) (st : List jmV) (w : jmW) (a : Nat) : rn 307 (76, lv, jvr a :: st, w) = jq_gs (mS w a) (1, 9, 0) 307 79 lv (.inr (.inr (mR w a 3)) :: st) (w) := q_getf (v := fun w a => .inr (.inr (mR w a 3))) (jd_of jb_307 dX9_table_76) jo_307 jk_9_389 (fun _ _ => rfl)
theorem p307_79 (lv : jmL) (st : List jmV) (w : jmW) (a : Nat) : rn 307 (79, lv, jvr a :: st, w) = jq_gs (mS w a) (1, 8, 0) 307 82 lv (.inr (.inr (mR w a 20)) :: st) (w) := q_getf (v := fun w a => .inr (.inr (mR w a 20))) (jd_of jb_307 dX9_table_79) jo_307 jk_9_340 (fun _ _ => rfl)
theorem p307_82 (lv : jmL) (st : List jmV) (w : jmW) : rn 307 (82, lv, st, w) = jq_ldi 307 83 lv st w (jg lv 1) := q_iload_n (jd_of jb_307 dX9_table_82) rfl
theorem p307_83 (lv : jmL) (st : List jmV) (w : jmW) (a : Nat) (j : Int) : rn 307 (83, lv, .inl j :: jvr a :: st, w) = jq_gr (mS w a) 0 j 307 84 lv (.inl (mI w a (jix j)) :: st) (w) := q_iald (jd_of jb_307 dX9_table_83)
theorem p307_84 (lv : jmL) (st : List jmV) (w : jmW) (b : Nat) (x1 : Int) : rn 307 (84, lv, .inl x1 :: jvr b :: st, w) = jq_s (mS w b) (1, 9, 0) (jq_b (decide (jwd st ≤ 8)) (jq_c 307 87 lv st (rn 213 (0, [(0, jvr b), (1, .inl x1)], [], w)))) := q_callv (as := [.inl x1]) (rest := st) (jd_of jb_307 dX9_table_84) jo_307 jk_9_64 rfl rfl rfl jo_213 jf_307_213 (Nat.le_of_ble_eq_true rfl)
theorem p307_87 (lv : jmL) (w : jmW) (x : Int) : rn 307 (87, lv, [.inl x], w) = some (some (.inl x), w) := q_ireturn (jd_of jb_307 dX9_table_87) jr_307
theorem p307_88 (lv : jmL) (st : List jmV) (w : jmW) : rn 307 (88, lv, st, w) = jq_lda 307 89 lv st w (jg lv 0) := q_aload_n (jd_of jb_307 dX9_table_88) rfl
theorem p307_89 (lv : jmL) (st : List jmV) (w : jmW) : rn 307 (89, lv, st, w) = jq_lda 307 90 lv st w (jg lv 0) := q_aload_n (jd_of jb_307 dX9_table_89) rfl
theorem p307_90 (lv : jmL) (st : List jmV) (w : jmW) (a : Nat) : rn 307 (90, lv, jvr a :: st, w) = jq_gs (mS w a) (1, 9, 0) 307 93 lv (.inr (.inr (mR w a 3)) :: st) (w) := q_getf (v := fun w a => .inr (.inr (mR w a 3))) (jd_of jb_307 dX9_table_90) jo_307 jk_9_389 (fun _ _ => rfl)
theorem p307_93 (lv : jmL) (st : List jmV) (w : jmW) (a : Nat) : rn 307 (93, lv, jvr a :: st, w) = jq_gs (mS w a) (1, 8, 0) 307 96 lv (.inr (.inr (mR w a 21)) :: st) (w) := q_getf (v := fun w a => .inr (.inr (mR w a 21))) (jd_of jb_307 dX9_table_93) jo_307 jk_9_343 (fun _ _ => rfl)
theorem p307_96 (lv : jmL) (st : List jmV) (w : jmW) : rn 307 (96, lv, st, w) = jq_ldi 307 97 lv st w (jg lv 1) := q_iload_n (jd_of jb_307 dX9_table_96) rfl
theorem p307_97 (lv : jmL) (st : List jmV) (w : jmW) (a : Nat) (j : Int) : rn 307 (97, lv, .inl j :: jvr a :: st, w) = jq_gr (mS w a) 0 j 307 98 lv (.inl (mI w a (jix j)) :: st) (w) := q_iald (jd_of jb_307 dX9_table_97)
theorem p307_98 (lv : jmL) (st : List jmV) (w : jmW) (b : Nat) (x1 : Int) : rn 307 (98, lv, .inl x1 :: jvr b :: st, w) = jq_s (mS w b) (1, 9, 0) (jq_b (decide (jwd st ≤ 8)) (jq_c 307 101 lv st (rn 213 (0, [(0, jvr b), (1, .inl x1)], [], w)))) := q_callv (as := [.inl x1]) (rest := st) (jd_of jb_307 dX9_table_98) jo_307 jk_9_64 rfl rfl rfl jo_213 jf_307_213 (Nat.le_of_ble_eq_true rfl)
theorem p307_101 (lv : jmL) (w : jmW) (x : Int) : rn 307 (101, lv, [.inl x], w) = some (some (.inl x), w) := q_ireturn (jd_of jb_307 dX9_table_101) jr_307
theorem p307_102 (lv : jmL) (st : List jmV) (w : jmW) : rn 307 (102, lv, st, w) = jq_lda 307 103 lv st w (jg lv 0) := q_aload_n (jd_of jb_307 dX9_table_102) rfl
theorem p307_103 (lv : jmL) (st : List jmV) (w : jmW) : rn 307 (103, lv, st, w) = jq_lda 307 104 lv st w (jg lv 0) := q_aload_n (jd_of jb_307 dX9_table_103) rfl
theorem p307_104 (lv : jmL) (st : List jmV) (w : jmW) (a : Nat) : rn 307 (104, lv, jvr a :: st, w) = jq_gs (mS w a) (1, 9, 0) 307 107 lv (.inr (.inr (mR w a 3)) :: st) (w) := q_getf (v := fun w a => .inr (.inr (mR w a 3))) (jd_of jb_307 dX9_table_104) jo_307 jk_9_389 (fun _ _ => rfl)
theorem p307_107 (lv : jmL) (st : List jmV) (w : jmW) (a : Nat) : rn 307 (107, lv, jvr a :: st, w) = jq_gs (mS w a) (1, 8, 0) 307 110 lv (.inr (.inr (mR w a 22)) :: st) (w) := q_getf (v := fun w a => .inr (.inr (mR w a 22))) (jd_of jb_307 dX9_table_107) jo_307 jk_9_346 (fun _ _ => rfl)
theorem p307_110 (lv : jmL) (st : List jmV) (w : jmW) : rn 307 (110, lv, st, w) = jq_ldi 307 111 lv st w (jg lv 1) := q_iload_n (jd_of jb_307 dX9_table_110) rfl
theorem p307_111 (lv : jmL) (st : List jmV) (w : jmW) (a : Nat) (j : Int) : rn 307 (111, lv, .inl j :: jvr a :: st, w) = jq_gr (mS w a) 0 j 307 112 lv (.inl (mI w a (jix j)) :: st) (w) := q_iald (jd_of jb_307 dX9_table_111)
theorem p307_112 (lv : jmL) (st : List jmV) (w : jmW) (b : Nat) (x1 : Int) : rn 307 (112, lv, .inl x1 :: jvr b :: st, w) = jq_s (mS w b) (1, 9, 0) (jq_b (decide (jwd st ≤ 8)) (jq_c 307 115 lv st (rn 213 (0, [(0, jvr b), (1, .inl x1)], [], w)))) := q_callv (as := [.inl x1]) (rest := st) (jd_of jb_307 dX9_table_112) jo_307 jk_9_64 rfl rfl rfl jo_213 jf_307_213 (Nat.le_of_ble_eq_true rfl)
theorem p307_115 (lv : jmL) (w : jmW) (x : Int) : rn 307 (115, lv, [.inl x], w) = some (some (.inl x), w) := q_ireturn (jd_of jb_307 dX9_table_115) jr_307
theorem p307_116 (lv : jmL) (st : List jmV) (w : jmW) : rn 307 (116, lv, st, w) = jq_lda 307 117 lv st w (jg lv 0) := q_aload_n (jd_of jb_307 dX9_table_116) rfl
theorem p307_117 (lv : jmL) (st : List jmV) (w : jmW) : rn 307 (117, lv, st, w) = jq_lda 307 118 lv st w (jg lv 0) := q_aload_n (jd_of jb_307 dX9_table_117) rfl
theorem p307_118 (lv : jmL) (st : List jmV) (w : jmW) (a : Nat) : rn 307 (118, lv, jvr a :: st, w) = jq_gs (mS w a) (1, 9, 0) 307 121 lv (.inr (.inr (mR w a 3)) :: st) (w) := q_getf (v := fun w a => .inr (.inr (mR w a 3))) (jd_of jb_307 dX9_table_118) jo_307 jk_9_389 (fun _ _ => rfl)
theorem p307_121 (lv : jmL) (st : List jmV) (w : jmW) (a : Nat) : rn 307 (121, lv, jvr a :: st, w) = jq_gs (mS w a) (1, 8, 0) 307 124 lv (.inr (.inr (mR w a 23)) :: st) (w) := q_getf (v := fun w a => .inr (.inr (mR w a 23))) (jd_of jb_307 dX9_table_121) jo_307 jk_9_349 (fun _ _ => rfl)
theorem p307_124 (lv : jmL) (st : List jmV) (w : jmW) : rn 307 (124, lv, st, w) = jq_ldi 307 125 lv st w (jg lv 1) := q_iload_n (jd_of jb_307 dX9_table_124) rfl
theorem p307_125 (lv : jmL) (st : List jmV) (w : jmW) (a : Nat) (j : Int) : rn 307 (125, lv, .inl j :: jvr a :: st, w) = jq_gr (mS w a) 0 j 307 126 lv (.inl (mI w a (jix j)) :: st) (w) := q_iald (jd_of jb_307 dX9_table_125)
theorem p307_126 (lv : jmL) (st : List jmV) (w : jmW) (b : Nat) (x1 : Int) : rn 307 (126, lv, .inl x1 :: jvr b :: st, w) = jq_s (mS w b) (1, 9, 0) (jq_b (decide (jwd st ≤ 8)) (jq_c 307 129 lv st (rn 213 (0, [(0, jvr b), (1, .inl x1)], [], w)))) := q_callv (as := [.inl x1]) (rest := st) (jd_of jb_307 dX9_table_126) jo_307 jk_9_64 rfl rfl rfl jo_213 jf_307_213 (Nat.le_of_ble_eq_true rfl)
theorem p307_129 (lv : jmL) (w : jmW) (x : Int) : rn 307 (129, lv, [.inl x], w) = some (some (.inl x), w) := q_ireturn (jd_of jb_307 dX9_table_129) jr_307
theorem p308_0 (lv : jmL) (st : List jmV) (w : jmW) : rn 308 (0, lv, st, w) = jq_lda 308 1 lv st w (jg lv 0) := q_aload_n (jd_of jb_308 dX9_steps_0) rfl
theorem p308_1 (lv : jmL) (st : List jmV) (w : jmW) : rn 308 (1, lv, st, w) = rn 308 (2, lv, .inl (0) :: st, w) := q_iconst (jd_of jb_308 dX9_steps_1)
theorem p308_2 (lv : jmL) (st : List jmV) (w : jmW) (a : Nat) (x : Int) : rn 308 (2, lv, .inl x :: jvr a :: st, w) = jq_gs (mS w a) (1, 9, 0) 308 5 lv (st) (setI w a 0 x) := q_putf (jd_of jb_308 dX9_steps_2) jo_308 jk_9_54 (Or.inl rfl) rfl
theorem p308_5 (lv : jmL) (st : List jmV) (w : jmW) : rn 308 (5, lv, st, w) = jq_lda 308 6 lv st w (jg lv 0) := q_aload_n (jd_of jb_308 dX9_steps_5) rfl
theorem p308_6 (lv : jmL) (st : List jmV) (w : jmW) (a : Nat) : rn 308 (6, lv, jvr a :: st, w) = jq_gs (mS w a) (1, 9, 0) 308 9 lv (.inr (.inr (mR w a 3)) :: st) (w) := q_getf (v := fun w a => .inr (.inr (mR w a 3))) (jd_of jb_308 dX9_steps_6) jo_308 jk_9_389 (fun _ _ => rfl)
theorem p308_9n (lv : jmL) (st : List jmV) (w : jmW) : rn 308 (9, lv, .inr (.inr none) :: st, w) = rn 308 (43, lv, st, w) := q_ifnull_n (tgt := 43) (jd_of jb_308 dX9_steps_9) (by decide)
theorem p308_9s (lv : jmL) (st : List jmV) (w : jmW) (a : Nat) : rn 308 (9, lv, .inr (.inr (some a)) :: st, w) = rn 308 (12, lv, st, w) := q_ifnull_s (tgt := 43) (jd_of jb_308 dX9_steps_9) (by decide)
theorem p308_12 (lv : jmL) (st : List jmV) (w : jmW) : rn 308 (12, lv, st, w) = jq_ldi 308 13 lv st w (jg lv 1) := q_iload_n (jd_of jb_308 dX9_steps_12) rfl
theorem p308_13 (lv : jmL) (st : List jmV) (w : jmW) (x : Int) : rn 308 (13, lv, .inl x :: st, w) = if jw x < 0 then rn 308 (43, lv, st, w) else rn 308 (16, lv, st, w) := q_if_lt (jd_of jb_308 dX9_steps_13) (by decide)
theorem p308_16 (lv : jmL) (st : List jmV) (w : jmW) : rn 308 (16, lv, st, w) = jq_ldi 308 17 lv st w (jg lv 1) := q_iload_n (jd_of jb_308 dX9_steps_16) rfl
theorem p308_17 (lv : jmL) (st : List jmV) (w : jmW) : rn 308 (17, lv, st, w) = jq_lda 308 18 lv st w (jg lv 0) := q_aload_n (jd_of jb_308 dX9_steps_17) rfl
theorem p308_18 (lv : jmL) (st : List jmV) (w : jmW) (a : Nat) : rn 308 (18, lv, jvr a :: st, w) = jq_gs (mS w a) (1, 9, 0) 308 21 lv (.inr (.inr (mR w a 3)) :: st) (w) := q_getf (v := fun w a => .inr (.inr (mR w a 3))) (jd_of jb_308 dX9_steps_18) jo_308 jk_9_389 (fun _ _ => rfl)
theorem p308_21 (lv : jmL) (st : List jmV) (w : jmW) (a : Nat) : rn 308 (21, lv, jvr a :: st, w) = jq_gs (mS w a) (1, 8, 0) 308 24 lv (.inl (mI w a 5) :: st) (w) := q_getf (v := fun w a => .inl (mI w a 5)) (jd_of jb_308 dX9_steps_21) jo_308 jk_9_206 (fun _ _ => rfl)
theorem p308_24 (lv : jmL) (st : List jmV) (w : jmW) (x y : Int) : rn 308 (24, lv, .inl y :: .inl x :: st, w) = if jw x < jw y then rn 308 (27, lv, st, w) else rn 308 (43, lv, st, w) := q_icmp_ge (jd_of jb_308 dX9_steps_24) (by decide)
theorem p308_27 (lv : jmL) (st : List jmV) (w : jmW) : rn 308 (27, lv, st, w) = jq_lda 308 28 lv st w (jg lv 0) := q_aload_n (jd_of jb_308 dX9_steps_27) rfl
theorem p308_28 (lv : jmL) (st : List jmV) (w : jmW) : rn 308 (28, lv, st, w) = jq_lda 308 29 lv st w (jg lv 0) := q_aload_n (jd_of jb_308 dX9_steps_28) rfl
theorem p308_29 (lv : jmL) (st : List jmV) (w : jmW) (a : Nat) : rn 308 (29, lv, jvr a :: st, w) = jq_gs (mS w a) (1, 9, 0) 308 32 lv (.inr (.inr (mR w a 3)) :: st) (w) := q_getf (v := fun w a => .inr (.inr (mR w a 3))) (jd_of jb_308 dX9_steps_29) jo_308 jk_9_389 (fun _ _ => rfl)
theorem p308_32 (lv : jmL) (st : List jmV) (w : jmW) (a : Nat) : rn 308 (32, lv, jvr a :: st, w) = jq_gs (mS w a) (1, 8, 0) 308 35 lv (.inr (.inr (mR w a 27)) :: st) (w) := q_getf (v := fun w a => .inr (.inr (mR w a 27))) (jd_of jb_308 dX9_steps_32) jo_308 jk_9_289 (fun _ _ => rfl)
theorem p308_35 (lv : jmL) (st : List jmV) (w : jmW) : rn 308 (35, lv, st, w) = jq_ldi 308 36 lv st w (jg lv 1) := q_iload_n (jd_of jb_308 dX9_steps_35) rfl
theorem p308_36 (lv : jmL) (st : List jmV) (w : jmW) (a : Nat) (j : Int) : rn 308 (36, lv, .inl j :: jvr a :: st, w) = jq_gr (mS w a) 0 j 308 37 lv (.inl (mI w a (jix j)) :: st) (w) := q_iald (jd_of jb_308 dX9_steps_36)
theorem p308_37 (lv : jmL) (st : List jmV) (w : jmW) (b : Nat) (x1 : Int) : rn 308 (37, lv, .inl x1 :: jvr b :: st, w) = jq_s (mS w b) (1, 9, 0) (jq_b (decide (jwd st ≤ 8)) (jq_c 308 40 lv st (rn 213 (0, [(0, jvr b), (1, .inl x1)], [], w)))) := q_callv (as := [.inl x1]) (rest := st) (jd_of jb_308 dX9_steps_37) jo_308 jk_9_64 rfl rfl rfl jo_213 jf_308_213 (Nat.le_of_ble_eq_true rfl)
theorem p308_40 (lv : jmL) (st : List jmV) (w : jmW) : rn 308 (40, lv, st, w) = rn 308 (48, lv, st, w) := q_goto (jd_of jb_308 dX9_steps_40) (by decide)
theorem p308_43 (lv : jmL) (st : List jmV) (w : jmW) : rn 308 (43, lv, st, w) = jq_lda 308 44 lv st w (jg lv 0) := q_aload_n (jd_of jb_308 dX9_steps_43) rfl
theorem p308_44 (lv : jmL) (st : List jmV) (w : jmW) : rn 308 (44, lv, st, w) = rn 308 (45, lv, .inl (1) :: st, w) := q_iconst (jd_of jb_308 dX9_steps_44)
theorem p308_45 (lv : jmL) (st : List jmV) (w : jmW) (b : Nat) (x1 : Int) : rn 308 (45, lv, .inl x1 :: jvr b :: st, w) = jq_s (mS w b) (1, 9, 0) (jq_b (decide (jwd st ≤ 8)) (jq_c 308 48 lv st (rn 176 (0, [(0, jvr b), (1, .inl x1)], [], w)))) := q_callv (as := [.inl x1]) (rest := st) (jd_of jb_308 dX9_steps_45) jo_308 jk_9_60 rfl rfl rfl jo_176 jf_308_176 (Nat.le_of_ble_eq_true rfl)
theorem p308_48 (lv : jmL) (w : jmW) (x : Int) : rn 308 (48, lv, [.inl x], w) = some (some (.inl x), w) := q_ireturn (jd_of jb_308 dX9_steps_48) jr_308
theorem p309_0 (lv : jmL) (st : List jmV) (w : jmW) : rn 309 (0, lv, st, w) = jq_lda 309 1 lv st w (jg lv 0) := q_aload_n (jd_of jb_309 dX9_led_0) rfl
theorem p309_1 (lv : jmL) (st : List jmV) (w : jmW) : rn 309 (1, lv, st, w) = rn 309 (2, lv, .inl (0) :: st, w) := q_iconst (jd_of jb_309 dX9_led_1)
theorem p309_2 (lv : jmL) (st : List jmV) (w : jmW) (a : Nat) (x : Int) : rn 309 (2, lv, .inl x :: jvr a :: st, w) = jq_gs (mS w a) (1, 9, 0) 309 5 lv (st) (setI w a 0 x) := q_putf (jd_of jb_309 dX9_led_2) jo_309 jk_9_54 (Or.inl rfl) rfl
theorem p309_5 (lv : jmL) (st : List jmV) (w : jmW) : rn 309 (5, lv, st, w) = rn 309 (6, lv, .inl (0) :: st, w) := q_iconst (jd_of jb_309 dX9_led_5)
theorem p309_6 (lv : jmL) (st : List jmV) (w : jmW) (x : Int) : rn 309 (6, lv, .inl x :: st, w) = rn 309 (7, js lv 2 (.inl x), st, w) := q_istore_n (jd_of jb_309 dX9_led_6) rfl (by rw [jm_309]; decide)
theorem p309_7 (lv : jmL) (st : List jmV) (w : jmW) : rn 309 (7, lv, st, w) = rn 309 (8, lv, .inl (0) :: st, w) := q_iconst (jd_of jb_309 dX9_led_7)
theorem p309_8 (lv : jmL) (st : List jmV) (w : jmW) (x : Int) : rn 309 (8, lv, .inl x :: st, w) = rn 309 (9, js lv 3 (.inl x), st, w) := q_istore_n (jd_of jb_309 dX9_led_8) rfl (by rw [jm_309]; decide)
theorem p309_9 (lv : jmL) (st : List jmV) (w : jmW) : rn 309 (9, lv, st, w) = jq_lda 309 10 lv st w (jg lv 0) := q_aload_n (jd_of jb_309 dX9_led_9) rfl
theorem p309_10 (lv : jmL) (st : List jmV) (w : jmW) (a : Nat) : rn 309 (10, lv, jvr a :: st, w) = jq_gs (mS w a) (1, 9, 0) 309 13 lv (.inr (.inr (mR w a 3)) :: st) (w) := q_getf (v := fun w a => .inr (.inr (mR w a 3))) (jd_of jb_309 dX9_led_10) jo_309 jk_9_389 (fun _ _ => rfl)
theorem p309_13n (lv : jmL) (st : List jmV) (w : jmW) : rn 309 (13, lv, .inr (.inr none) :: st, w) = rn 309 (76, lv, st, w) := q_ifnull_n (tgt := 76) (jd_of jb_309 dX9_led_13) (by decide)
theorem p309_13s (lv : jmL) (st : List jmV) (w : jmW) (a : Nat) : rn 309 (13, lv, .inr (.inr (some a)) :: st, w) = rn 309 (16, lv, st, w) := q_ifnull_s (tgt := 76) (jd_of jb_309 dX9_led_13) (by decide)
theorem p309_16 (lv : jmL) (st : List jmV) (w : jmW) : rn 309 (16, lv, st, w) = jq_ldi 309 17 lv st w (jg lv 3) := q_iload_n (jd_of jb_309 dX9_led_16) rfl
theorem p309_17 (lv : jmL) (st : List jmV) (w : jmW) : rn 309 (17, lv, st, w) = jq_lda 309 18 lv st w (jg lv 0) := q_aload_n (jd_of jb_309 dX9_led_17) rfl
theorem p309_18 (lv : jmL) (st : List jmV) (w : jmW) (a : Nat) : rn 309 (18, lv, jvr a :: st, w) = jq_gs (mS w a) (1, 9, 0) 309 21 lv (.inr (.inr (mR w a 18)) :: st) (w) := q_getf (v := fun w a => .inr (.inr (mR w a 18))) (jd_of jb_309 dX9_led_18) jo_309 jk_9_21 (fun _ _ => rfl)
theorem p309_21 (lv : jmL) (st : List jmV) (w : jmW) : rn 309 (21, lv, st, w) = rn 309 (24, lv, .inl (289) :: st, w) := q_sipush (jd_of jb_309 dX9_led_21) (by decide +kernel)
theorem p309_24 (lv : jmL) (st : List jmV) (w : jmW) (a : Nat) (j : Int) : rn 309 (24, lv, .inl j :: jvr a :: st, w) = jq_gr (mS w a) 0 j 309 25 lv (.inl (mI w a (jix j)) :: st) (w) := q_iald (jd_of jb_309 dX9_led_24)
theorem p309_25 (lv : jmL) (st : List jmV) (w : jmW) (x y : Int) : rn 309 (25, lv, .inl y :: .inl x :: st, w) = if jw x < jw y then rn 309 (28, lv, st, w) else rn 309 (76, lv, st, w) := q_icmp_ge (jd_of jb_309 dX9_led_25) (by decide)
theorem p309_28 (lv : jmL) (st : List jmV) (w : jmW) : rn 309 (28, lv, st, w) = jq_lda 309 29 lv st w (jg lv 0) := q_aload_n (jd_of jb_309 dX9_led_28) rfl
theorem p309_29 (lv : jmL) (st : List jmV) (w : jmW) (a : Nat) : rn 309 (29, lv, jvr a :: st, w) = jq_gs (mS w a) (1, 9, 0) 309 32 lv (.inr (.inr (mR w a 3)) :: st) (w) := q_getf (v := fun w a => .inr (.inr (mR w a 3))) (jd_of jb_309 dX9_led_29) jo_309 jk_9_389 (fun _ _ => rfl)
theorem p309_32 (lv : jmL) (st : List jmV) (w : jmW) (a : Nat) : rn 309 (32, lv, jvr a :: st, w) = jq_gs (mS w a) (1, 8, 0) 309 35 lv (.inr (.inr (mR w a 17)) :: st) (w) := q_getf (v := fun w a => .inr (.inr (mR w a 17))) (jd_of jb_309 dX9_led_32) jo_309 jk_9_275 (fun _ _ => rfl)
theorem p309_35 (lv : jmL) (st : List jmV) (w : jmW) : rn 309 (35, lv, st, w) = jq_lda 309 36 lv st w (jg lv 0) := q_aload_n (jd_of jb_309 dX9_led_35) rfl
theorem p309_36 (lv : jmL) (st : List jmV) (w : jmW) (a : Nat) : rn 309 (36, lv, jvr a :: st, w) = jq_gs (mS w a) (1, 9, 0) 309 39 lv (.inr (.inr (mR w a 18)) :: st) (w) := q_getf (v := fun w a => .inr (.inr (mR w a 18))) (jd_of jb_309 dX9_led_36) jo_309 jk_9_21 (fun _ _ => rfl)
theorem p309_39 (lv : jmL) (st : List jmV) (w : jmW) : rn 309 (39, lv, st, w) = jq_ldi 309 40 lv st w (jg lv 3) := q_iload_n (jd_of jb_309 dX9_led_39) rfl
theorem p309_40 (lv : jmL) (st : List jmV) (w : jmW) (x1 : Option Nat) (x2 : Int) : rn 309 (40, lv, .inl x2 :: .inr (.inr x1) :: st, w) = jq_b (decide (jwd st ≤ 8)) (jq_c 309 43 lv st (rn 221 (0, [(0, .inr (.inr x1)), (1, .inl x2)], [], w))) := q_calls (as := [.inr (.inr x1), .inl x2]) (rest := st) (jd_of jb_309 dX9_led_40) jo_309 jk_9_409 rfl rfl rfl jf_309_221 (Nat.le_of_ble_eq_true rfl)
theorem p309_43 (lv : jmL) (st : List jmV) (w : jmW) (a : Nat) (j : Int) : rn 309 (43, lv, .inl j :: jvr a :: st, w) = jq_gr (mS w a) 0 j 309 44 lv (.inl (mI w a (jix j)) :: st) (w) := q_iald (jd_of jb_309 dX9_led_43)
theorem p309_44 (lv : jmL) (st : List jmV) (w : jmW) : rn 309 (44, lv, st, w) = rn 309 (45, lv, .inl (1) :: st, w) := q_iconst (jd_of jb_309 dX9_led_44)
theorem p309_45 (lv : jmL) (st : List jmV) (w : jmW) (x y : Int) : rn 309 (45, lv, .inl y :: .inl x :: st, w) = if jw x = jw y then rn 309 (51, lv, st, w) else rn 309 (48, lv, st, w) := q_icmp_eq (jd_of jb_309 dX9_led_45) (by decide)
theorem p309_48 (lv : jmL) (st : List jmV) (w : jmW) : rn 309 (48, lv, st, w) = rn 309 (70, lv, st, w) := q_goto (jd_of jb_309 dX9_led_48) (by decide)
theorem p309_51 (lv : jmL) (st : List jmV) (w : jmW) : rn 309 (51, lv, st, w) = jq_ldi 309 52 lv st w (jg lv 2) := q_iload_n (jd_of jb_309 dX9_led_51) rfl
theorem p309_52 (lv : jmL) (st : List jmV) (w : jmW) : rn 309 (52, lv, st, w) = jq_ldi 309 53 lv st w (jg lv 1) := q_iload_n (jd_of jb_309 dX9_led_52) rfl
theorem p309_53 (lv : jmL) (st : List jmV) (w : jmW) (x y : Int) : rn 309 (53, lv, .inl y :: .inl x :: st, w) = if jw x = jw y then rn 309 (56, lv, st, w) else rn 309 (67, lv, st, w) := q_icmp_ne (jd_of jb_309 dX9_led_53) (by decide)
theorem p309_56 (lv : jmL) (st : List jmV) (w : jmW) : rn 309 (56, lv, st, w) = jq_lda 309 57 lv st w (jg lv 0) := q_aload_n (jd_of jb_309 dX9_led_56) rfl
theorem p309_57 (lv : jmL) (st : List jmV) (w : jmW) (a : Nat) : rn 309 (57, lv, jvr a :: st, w) = jq_gs (mS w a) (1, 9, 0) 309 60 lv (.inr (.inr (mR w a 18)) :: st) (w) := q_getf (v := fun w a => .inr (.inr (mR w a 18))) (jd_of jb_309 dX9_led_57) jo_309 jk_9_21 (fun _ _ => rfl)
theorem p309_60 (lv : jmL) (st : List jmV) (w : jmW) : rn 309 (60, lv, st, w) = rn 309 (63, lv, .inl (204) :: st, w) := q_sipush (jd_of jb_309 dX9_led_60) (by decide +kernel)
theorem p309_63 (lv : jmL) (st : List jmV) (w : jmW) : rn 309 (63, lv, st, w) = jq_ldi 309 64 lv st w (jg lv 3) := q_iload_n (jd_of jb_309 dX9_led_63) rfl
theorem p309_64 (lv : jmL) (st : List jmV) (w : jmW) (x y : Int) : rn 309 (64, lv, .inl y :: .inl x :: st, w) = rn 309 (65, lv, .inl (x + y) :: st, w) := q_iadd (jd_of jb_309 dX9_led_64)
theorem p309_65 (lv : jmL) (st : List jmV) (w : jmW) (a : Nat) (j : Int) : rn 309 (65, lv, .inl j :: jvr a :: st, w) = jq_gr (mS w a) 0 j 309 66 lv (.inl (mI w a (jix j)) :: st) (w) := q_iald (jd_of jb_309 dX9_led_65)
theorem p309_66 (lv : jmL) (w : jmW) (x : Int) : rn 309 (66, lv, [.inl x], w) = some (some (.inl x), w) := q_ireturn (jd_of jb_309 dX9_led_66) jr_309
theorem p309_67 (lv : jmL) (st : List jmV) (w : jmW) : rn 309 (67, lv, st, w) = jq_inc 309 70 lv 2 (1) st w (jg lv 2) := q_iinc (jd_of jb_309 dX9_led_67) (by rw [jm_309]; decide)
theorem p309_70 (lv : jmL) (st : List jmV) (w : jmW) : rn 309 (70, lv, st, w) = jq_inc 309 73 lv 3 (1) st w (jg lv 3) := q_iinc (jd_of jb_309 dX9_led_70) (by rw [jm_309]; decide)
theorem p309_73 (lv : jmL) (st : List jmV) (w : jmW) : rn 309 (73, lv, st, w) = rn 309 (9, lv, st, w) := q_goto (jd_of jb_309 dX9_led_73) (by decide)
theorem p309_76 (lv : jmL) (st : List jmV) (w : jmW) : rn 309 (76, lv, st, w) = jq_lda 309 77 lv st w (jg lv 0) := q_aload_n (jd_of jb_309 dX9_led_76) rfl
theorem p309_77 (lv : jmL) (st : List jmV) (w : jmW) : rn 309 (77, lv, st, w) = rn 309 (78, lv, .inl (1) :: st, w) := q_iconst (jd_of jb_309 dX9_led_77)
theorem p309_78 (lv : jmL) (st : List jmV) (w : jmW) (a : Nat) (x : Int) : rn 309 (78, lv, .inl x :: jvr a :: st, w) = jq_gs (mS w a) (1, 9, 0) 309 81 lv (st) (setI w a 0 x) := q_putf (jd_of jb_309 dX9_led_78) jo_309 jk_9_54 (Or.inl rfl) rfl
theorem p309_81 (lv : jmL) (st : List jmV) (w : jmW) : rn 309 (81, lv, st, w) = rn 309 (82, lv, .inl (0) :: st, w) := q_iconst (jd_of jb_309 dX9_led_81)
theorem p309_82 (lv : jmL) (w : jmW) (x : Int) : rn 309 (82, lv, [.inl x], w) = some (some (.inl x), w) := q_ireturn (jd_of jb_309 dX9_led_82) jr_309
theorem p310_0 (lv : jmL) (st : List jmV) (w : jmW) : rn 310 (0, lv, st, w) = jq_lda 310 1 lv st w (jg lv 0) := q_aload_n (jd_of jb_310 dX9_size_0) rfl
theorem p310_1 (lv : jmL) (st : List jmV) (w : jmW) : rn 310 (1, lv, st, w) = rn 310 (2, lv, .inl (0) :: st, w) := q_iconst (jd_of jb_310 dX9_size_1)
theorem p310_2 (lv : jmL) (st : List jmV) (w : jmW) (a : Nat) (x : Int) : rn 310 (2, lv, .inl x :: jvr a :: st, w) = jq_gs (mS w a) (1, 9, 0) 310 5 lv (st) (setI w a 0 x) := q_putf (jd_of jb_310 dX9_size_2) jo_310 jk_9_54 (Or.inl rfl) rfl
theorem p310_5 (lv : jmL) (st : List jmV) (w : jmW) : rn 310 (5, lv, st, w) = jq_ldi 310 6 lv st w (jg lv 1) := q_iload_n (jd_of jb_310 dX9_size_5) rfl
theorem p310_6 (lv : jmL) (st : List jmV) (w : jmW) : rn 310 (6, lv, st, w) = rn 310 (8, lv, .inl (15) :: st, w) := q_bipush (jd_of jb_310 dX9_size_6) (by decide +kernel)
theorem p310_8 (lv : jmL) (st : List jmV) (w : jmW) (x y : Int) : rn 310 (8, lv, .inl y :: .inl x :: st, w) = if jw x = jw y then rn 310 (11, lv, st, w) else rn 310 (16, lv, st, w) := q_icmp_ne (jd_of jb_310 dX9_size_8) (by decide)
theorem p310_11 (lv : jmL) (st : List jmV) (w : jmW) : rn 310 (11, lv, st, w) = jq_lda 310 12 lv st w (jg lv 0) := q_aload_n (jd_of jb_310 dX9_size_11) rfl
theorem p310_12 (lv : jmL) (st : List jmV) (w : jmW) (a : Nat) : rn 310 (12, lv, jvr a :: st, w) = jq_gs (mS w a) (1, 9, 0) 310 15 lv (.inl (mI w a 6) :: st) (w) := q_getf (v := fun w a => .inl (mI w a 6)) (jd_of jb_310 dX9_size_12) jo_310 jk_9_382 (fun _ _ => rfl)
theorem p310_15 (lv : jmL) (w : jmW) (x : Int) : rn 310 (15, lv, [.inl x], w) = some (some (.inl x), w) := q_ireturn (jd_of jb_310 dX9_size_15) jr_310
theorem p310_16 (lv : jmL) (st : List jmV) (w : jmW) : rn 310 (16, lv, st, w) = jq_ldi 310 17 lv st w (jg lv 1) := q_iload_n (jd_of jb_310 dX9_size_16) rfl
theorem p310_17 (lv : jmL) (st : List jmV) (w : jmW) : rn 310 (17, lv, st, w) = rn 310 (18, lv, .inl (0) :: st, w) := q_iconst (jd_of jb_310 dX9_size_17)
theorem p310_18 (lv : jmL) (st : List jmV) (w : jmW) : rn 310 (18, lv, st, w) = rn 310 (20, lv, .inl (14) :: st, w) := q_bipush (jd_of jb_310 dX9_size_18) (by decide +kernel)
theorem p310_20 (lv : jmL) (st : List jmV) (w : jmW) (x1 : Int) (x2 : Int) (x3 : Int) : rn 310 (20, lv, .inl x3 :: .inl x2 :: .inl x1 :: st, w) = jq_b (decide (jwd st ≤ 8)) (jq_c 310 23 lv st (rn 192 (0, [(0, .inl x1), (1, .inl x2), (2, .inl x3)], [], w))) := q_calls (as := [.inl x1, .inl x2, .inl x3]) (rest := st) (jd_of jb_310 dX9_size_20) jo_310 jk_9_135 rfl rfl rfl jf_310_192 (Nat.le_of_ble_eq_true rfl)
theorem p310_23 (lv : jmL) (st : List jmV) (w : jmW) (x : Int) : rn 310 (23, lv, .inl x :: st, w) = if jw x = 0 then rn 310 (26, lv, st, w) else rn 310 (28, lv, st, w) := q_if_ne (jd_of jb_310 dX9_size_23) (by decide)
theorem p310_26 (lv : jmL) (st : List jmV) (w : jmW) : rn 310 (26, lv, st, w) = rn 310 (27, lv, .inl (-1) :: st, w) := q_iconst (jd_of jb_310 dX9_size_26)
theorem p310_27 (lv : jmL) (w : jmW) (x : Int) : rn 310 (27, lv, [.inl x], w) = some (some (.inl x), w) := q_ireturn (jd_of jb_310 dX9_size_27) jr_310
theorem p310_28 (lv : jmL) (st : List jmV) (w : jmW) : rn 310 (28, lv, st, w) = jq_lda 310 29 lv st w (jg lv 0) := q_aload_n (jd_of jb_310 dX9_size_28) rfl
theorem p310_29 (lv : jmL) (st : List jmV) (w : jmW) (a : Nat) : rn 310 (29, lv, jvr a :: st, w) = jq_gs (mS w a) (1, 9, 0) 310 32 lv (.inr (.inr (mR w a 3)) :: st) (w) := q_getf (v := fun w a => .inr (.inr (mR w a 3))) (jd_of jb_310 dX9_size_29) jo_310 jk_9_389 (fun _ _ => rfl)
theorem p310_32n (lv : jmL) (st : List jmV) (w : jmW) : rn 310 (32, lv, .inr (.inr none) :: st, w) = rn 310 (35, lv, st, w) := q_ifnonnull_n (tgt := 37) (jd_of jb_310 dX9_size_32) (by decide)
theorem p310_32s (lv : jmL) (st : List jmV) (w : jmW) (a : Nat) : rn 310 (32, lv, .inr (.inr (some a)) :: st, w) = rn 310 (37, lv, st, w) := q_ifnonnull_s (tgt := 37) (jd_of jb_310 dX9_size_32) (by decide)
theorem p310_35 (lv : jmL) (st : List jmV) (w : jmW) : rn 310 (35, lv, st, w) = rn 310 (36, lv, .inl (0) :: st, w) := q_iconst (jd_of jb_310 dX9_size_35)
theorem p310_36 (lv : jmL) (w : jmW) (x : Int) : rn 310 (36, lv, [.inl x], w) = some (some (.inl x), w) := q_ireturn (jd_of jb_310 dX9_size_36) jr_310
theorem p310_37 (lv : jmL) (st : List jmV) (w : jmW) : rn 310 (37, lv, st, w) = jq_ldi 310 38 lv st w (jg lv 1) := q_iload_n (jd_of jb_310 dX9_size_37) rfl
theorem p310_38 (lv : jmL) (st : List jmV) (w : jmW) (x : Int) : rn 310 (38, lv, .inl x :: st, w) = if jw x = 0 then rn 310 (108, lv, st, w) else if jw x = 1 then rn 310 (116, lv, st, w) else if jw x = 2 then rn 310 (124, lv, st, w) else if jw x = 3 then rn 310 (140, lv, st, w) else if jw x = 4 then rn 310 (156, lv, st, w) else if jw x = 5 then rn 310 (164, lv, st, w) else if jw x = 6 then rn 310 (172, lv, st, w) else if jw x = 7 then rn 310 (180, lv, st, w) else if jw x = 8 then rn 310 (189, lv, st, w) else if jw x = 9 then rn 310 (198, lv, st, w) else if jw x = 10 then rn 310 (207, lv, st, w) else if jw x = 11 then rn 310 (216, lv, st, w) else if jw x = 12 then rn 310 (225, lv, st, w) else if jw x = 13 then rn 310 (233, lv, st, w) else rn 310 (238, lv, st, w) := by
  by_cases h0 : jw x = 0
  · rw [if_pos h0]; exact q_table (jd_of jb_310 dX9_size_38) (by omega) (by omega) (off := 70) (by rw [h0]; rfl) (by decide)
  rw [if_neg h0]
  by_cases h1 : jw x = 1
  · rw [if_pos h1]; exact q_table (jd_of jb_310 dX9_size_38) (by omega) (by omega) (off := 78) (by rw [h1]; rfl) (by decide)
  rw [if_neg h1]
  by_cases h2 : jw x = 2
  · rw [if_pos h2]; exact q_table (jd_of jb_310 dX9_size_38) (by omega) (by omega) (off := 86) (by rw [h2]; rfl) (by decide)
  rw [if_neg h2]
  by_cases h3 : jw x = 3
  · rw [if_pos h3]; exact q_table (jd_of jb_310 dX9_size_38) (by omega) (by omega) (off := 102) (by rw [h3]; rfl) (by decide)
  rw [if_neg h3]
  by_cases h4 : jw x = 4
  · rw [if_pos h4]; exact q_table (jd_of jb_310 dX9_size_38) (by omega) (by omega) (off := 118) (by rw [h4]; rfl) (by decide)
  rw [if_neg h4]
  by_cases h5 : jw x = 5
  · rw [if_pos h5]; exact q_table (jd_of jb_310 dX9_size_38) (by omega) (by omega) (off := 126) (by rw [h5]; rfl) (by decide)
  rw [if_neg h5]
  by_cases h6 : jw x = 6
  · rw [if_pos h6]; exact q_table (jd_of jb_310 dX9_size_38) (by omega) (by omega) (off := 134) (by rw [h6]; rfl) (by decide)
  rw [if_neg h6]
  by_cases h7 : jw x = 7
  · rw [if_pos h7]; exact q_table (jd_of jb_310 dX9_size_38) (by omega) (by omega) (off := 142) (by rw [h7]; rfl) (by decide)
  rw [if_neg h7]
  by_cases h8 : jw x = 8
  · rw [if_pos h8]; exact q_table (jd_of jb_310 dX9_size_38) (by omega) (by omega) (off := 151) (by rw [h8]; rfl) (by decide)
  rw [if_neg h8]
  by_cases h9 : jw x = 9
  · rw [if_pos h9]; exact q_table (jd_of jb_310 dX9_size_38) (by omega) (by omega) (off := 160) (by rw [h9]; rfl) (by decide)
  rw [if_neg h9]
  by_cases h10 : jw x = 10
  · rw [if_pos h10]; exact q_table (jd_of jb_310 dX9_size_38) (by omega) (by omega) (off := 169) (by rw [h10]; rfl) (by decide)
  rw [if_neg h10]
  by_cases h11 : jw x = 11
  · rw [if_pos h11]; exact q_table (jd_of jb_310 dX9_size_38) (by omega) (by omega) (off := 178) (by rw [h11]; rfl) (by decide)
  rw [if_neg h11]
  by_cases h12 : jw x = 12
  · rw [if_pos h12]; exact q_table (jd_of jb_310 dX9_size_38) (by omega) (by omega) (off := 187) (by rw [h12]; rfl) (by decide)
  rw [if_neg h12]
  by_cases h13 : jw x = 13
  · rw [if_pos h13]; exact q_table (jd_of jb_310 dX9_size_38) (by omega) (by omega) (off := 195) (by rw [h13]; rfl) (by decide)
  rw [if_neg h13]
  exact q_tabled (jd_of jb_310 dX9_size_38) (by omega) (by decide)
theorem p310_108 (lv : jmL) (st : List jmV) (w : jmW) : rn 310 (108, lv, st, w) = jq_lda 310 109 lv st w (jg lv 0) := q_aload_n (jd_of jb_310 dX9_size_108) rfl
theorem p310_109 (lv : jmL) (st : List jmV) (w : jmW) (a : Nat) : rn 310 (109, lv, jvr a :: st, w) = jq_gs (mS w a) (1, 9, 0) 310 112 lv (.inr (.inr (mR w a 3)) :: st) (w) := q_getf (v := fun w a => .inr (.inr (mR w a 3))) (jd_of jb_310 dX9_size_109) jo_310 jk_9_389 (fun _ _ => rfl)
theorem p310_112 (lv : jmL) (st : List jmV) (w : jmW) (a : Nat) : rn 310 (112, lv, jvr a :: st, w) = jq_gs (mS w a) (1, 8, 0) 310 115 lv (.inl (mI w a 0) :: st) (w) := q_getf (v := fun w a => .inl (mI w a 0)) (jd_of jb_310 dX9_size_112) jo_310 jk_9_154 (fun _ _ => rfl)
theorem p310_115 (lv : jmL) (w : jmW) (x : Int) : rn 310 (115, lv, [.inl x], w) = some (some (.inl x), w) := q_ireturn (jd_of jb_310 dX9_size_115) jr_310
theorem p310_116 (lv : jmL) (st : List jmV) (w : jmW) : rn 310 (116, lv, st, w) = jq_lda 310 117 lv st w (jg lv 0) := q_aload_n (jd_of jb_310 dX9_size_116) rfl
theorem p310_117 (lv : jmL) (st : List jmV) (w : jmW) (a : Nat) : rn 310 (117, lv, jvr a :: st, w) = jq_gs (mS w a) (1, 9, 0) 310 120 lv (.inr (.inr (mR w a 3)) :: st) (w) := q_getf (v := fun w a => .inr (.inr (mR w a 3))) (jd_of jb_310 dX9_size_117) jo_310 jk_9_389 (fun _ _ => rfl)
theorem p310_120 (lv : jmL) (st : List jmV) (w : jmW) (a : Nat) : rn 310 (120, lv, jvr a :: st, w) = jq_gs (mS w a) (1, 8, 0) 310 123 lv (.inl (mI w a 1) :: st) (w) := q_getf (v := fun w a => .inl (mI w a 1)) (jd_of jb_310 dX9_size_120) jo_310 jk_9_161 (fun _ _ => rfl)
theorem p310_123 (lv : jmL) (w : jmW) (x : Int) : rn 310 (123, lv, [.inl x], w) = some (some (.inl x), w) := q_ireturn (jd_of jb_310 dX9_size_123) jr_310
theorem p310_124 (lv : jmL) (st : List jmV) (w : jmW) : rn 310 (124, lv, st, w) = jq_lda 310 125 lv st w (jg lv 0) := q_aload_n (jd_of jb_310 dX9_size_124) rfl
theorem p310_125 (lv : jmL) (st : List jmV) (w : jmW) (a : Nat) : rn 310 (125, lv, jvr a :: st, w) = jq_gs (mS w a) (1, 9, 0) 310 128 lv (.inr (.inr (mR w a 3)) :: st) (w) := q_getf (v := fun w a => .inr (.inr (mR w a 3))) (jd_of jb_310 dX9_size_125) jo_310 jk_9_389 (fun _ _ => rfl)
theorem p310_128 (lv : jmL) (st : List jmV) (w : jmW) (a : Nat) : rn 310 (128, lv, jvr a :: st, w) = jq_gs (mS w a) (1, 8, 0) 310 131 lv (.inl (mI w a 15) :: st) (w) := q_getf (v := fun w a => .inl (mI w a 15)) (jd_of jb_310 dX9_size_128) jo_310 jk_9_263 (fun _ _ => rfl)
theorem p310_131 (lv : jmL) (st : List jmV) (w : jmW) (x : Int) : rn 310 (131, lv, .inl x :: st, w) = if jw x = 0 then rn 310 (138, lv, st, w) else rn 310 (134, lv, st, w) := q_if_eq (jd_of jb_310 dX9_size_131) (by decide)
theorem p310_134 (lv : jmL) (st : List jmV) (w : jmW) : rn 310 (134, lv, st, w) = rn 310 (135, lv, .inl (1) :: st, w) := q_iconst (jd_of jb_310 dX9_size_134)
theorem p310_135 (lv : jmL) (st : List jmV) (w : jmW) : rn 310 (135, lv, st, w) = rn 310 (139, lv, st, w) := q_goto (jd_of jb_310 dX9_size_135) (by decide)
theorem p310_138 (lv : jmL) (st : List jmV) (w : jmW) : rn 310 (138, lv, st, w) = rn 310 (139, lv, .inl (0) :: st, w) := q_iconst (jd_of jb_310 dX9_size_138)
theorem p310_139 (lv : jmL) (w : jmW) (x : Int) : rn 310 (139, lv, [.inl x], w) = some (some (.inl x), w) := q_ireturn (jd_of jb_310 dX9_size_139) jr_310
theorem p310_140 (lv : jmL) (st : List jmV) (w : jmW) : rn 310 (140, lv, st, w) = jq_lda 310 141 lv st w (jg lv 0) := q_aload_n (jd_of jb_310 dX9_size_140) rfl
theorem p310_141 (lv : jmL) (st : List jmV) (w : jmW) (a : Nat) : rn 310 (141, lv, jvr a :: st, w) = jq_gs (mS w a) (1, 9, 0) 310 144 lv (.inr (.inr (mR w a 3)) :: st) (w) := q_getf (v := fun w a => .inr (.inr (mR w a 3))) (jd_of jb_310 dX9_size_141) jo_310 jk_9_389 (fun _ _ => rfl)
theorem p310_144 (lv : jmL) (st : List jmV) (w : jmW) (a : Nat) : rn 310 (144, lv, jvr a :: st, w) = jq_gs (mS w a) (1, 8, 0) 310 147 lv (.inl (mI w a 16) :: st) (w) := q_getf (v := fun w a => .inl (mI w a 16)) (jd_of jb_310 dX9_size_144) jo_310 jk_9_266 (fun _ _ => rfl)
theorem p310_147 (lv : jmL) (st : List jmV) (w : jmW) (x : Int) : rn 310 (147, lv, .inl x :: st, w) = if jw x = 0 then rn 310 (154, lv, st, w) else rn 310 (150, lv, st, w) := q_if_eq (jd_of jb_310 dX9_size_147) (by decide)
theorem p310_150 (lv : jmL) (st : List jmV) (w : jmW) : rn 310 (150, lv, st, w) = rn 310 (151, lv, .inl (1) :: st, w) := q_iconst (jd_of jb_310 dX9_size_150)
theorem p310_151 (lv : jmL) (st : List jmV) (w : jmW) : rn 310 (151, lv, st, w) = rn 310 (155, lv, st, w) := q_goto (jd_of jb_310 dX9_size_151) (by decide)
theorem p310_154 (lv : jmL) (st : List jmV) (w : jmW) : rn 310 (154, lv, st, w) = rn 310 (155, lv, .inl (0) :: st, w) := q_iconst (jd_of jb_310 dX9_size_154)
theorem p310_155 (lv : jmL) (w : jmW) (x : Int) : rn 310 (155, lv, [.inl x], w) = some (some (.inl x), w) := q_ireturn (jd_of jb_310 dX9_size_155) jr_310
theorem p310_156 (lv : jmL) (st : List jmV) (w : jmW) : rn 310 (156, lv, st, w) = jq_lda 310 157 lv st w (jg lv 0) := q_aload_n (jd_of jb_310 dX9_size_156) rfl
theorem p310_157 (lv : jmL) (st : List jmV) (w : jmW) (a : Nat) : rn 310 (157, lv, jvr a :: st, w) = jq_gs (mS w a) (1, 9, 0) 310 160 lv (.inr (.inr (mR w a 3)) :: st) (w) := q_getf (v := fun w a => .inr (.inr (mR w a 3))) (jd_of jb_310 dX9_size_157) jo_310 jk_9_389 (fun _ _ => rfl)
theorem p310_160 (lv : jmL) (st : List jmV) (w : jmW) (a : Nat) : rn 310 (160, lv, jvr a :: st, w) = jq_gs (mS w a) (1, 8, 0) 310 163 lv (.inl (mI w a 3) :: st) (w) := q_getf (v := fun w a => .inl (mI w a 3)) (jd_of jb_310 dX9_size_160) jo_310 jk_9_311 (fun _ _ => rfl)
theorem p310_163 (lv : jmL) (w : jmW) (x : Int) : rn 310 (163, lv, [.inl x], w) = some (some (.inl x), w) := q_ireturn (jd_of jb_310 dX9_size_163) jr_310
theorem p310_164 (lv : jmL) (st : List jmV) (w : jmW) : rn 310 (164, lv, st, w) = jq_lda 310 165 lv st w (jg lv 0) := q_aload_n (jd_of jb_310 dX9_size_164) rfl
theorem p310_165 (lv : jmL) (st : List jmV) (w : jmW) (a : Nat) : rn 310 (165, lv, jvr a :: st, w) = jq_gs (mS w a) (1, 9, 0) 310 168 lv (.inr (.inr (mR w a 3)) :: st) (w) := q_getf (v := fun w a => .inr (.inr (mR w a 3))) (jd_of jb_310 dX9_size_165) jo_310 jk_9_389 (fun _ _ => rfl)
theorem p310_168 (lv : jmL) (st : List jmV) (w : jmW) (a : Nat) : rn 310 (168, lv, jvr a :: st, w) = jq_gs (mS w a) (1, 8, 0) 310 171 lv (.inl (mI w a 5) :: st) (w) := q_getf (v := fun w a => .inl (mI w a 5)) (jd_of jb_310 dX9_size_168) jo_310 jk_9_206 (fun _ _ => rfl)
theorem p310_171 (lv : jmL) (w : jmW) (x : Int) : rn 310 (171, lv, [.inl x], w) = some (some (.inl x), w) := q_ireturn (jd_of jb_310 dX9_size_171) jr_310
theorem p310_172 (lv : jmL) (st : List jmV) (w : jmW) : rn 310 (172, lv, st, w) = jq_lda 310 173 lv st w (jg lv 0) := q_aload_n (jd_of jb_310 dX9_size_172) rfl
theorem p310_173 (lv : jmL) (st : List jmV) (w : jmW) (a : Nat) : rn 310 (173, lv, jvr a :: st, w) = jq_gs (mS w a) (1, 9, 0) 310 176 lv (.inr (.inr (mR w a 3)) :: st) (w) := q_getf (v := fun w a => .inr (.inr (mR w a 3))) (jd_of jb_310 dX9_size_173) jo_310 jk_9_389 (fun _ _ => rfl)
theorem p310_176 (lv : jmL) (st : List jmV) (w : jmW) (a : Nat) : rn 310 (176, lv, jvr a :: st, w) = jq_gs (mS w a) (1, 8, 0) 310 179 lv (.inl (mI w a 8) :: st) (w) := q_getf (v := fun w a => .inl (mI w a 8)) (jd_of jb_310 dX9_size_176) jo_310 jk_9_370 (fun _ _ => rfl)
theorem p310_179 (lv : jmL) (w : jmW) (x : Int) : rn 310 (179, lv, [.inl x], w) = some (some (.inl x), w) := q_ireturn (jd_of jb_310 dX9_size_179) jr_310
theorem p310_180 (lv : jmL) (st : List jmV) (w : jmW) : rn 310 (180, lv, st, w) = jq_lda 310 181 lv st w (jg lv 0) := q_aload_n (jd_of jb_310 dX9_size_180) rfl
theorem p310_181 (lv : jmL) (st : List jmV) (w : jmW) (a : Nat) : rn 310 (181, lv, jvr a :: st, w) = jq_gs (mS w a) (1, 9, 0) 310 184 lv (.inr (.inr (mR w a 18)) :: st) (w) := q_getf (v := fun w a => .inr (.inr (mR w a 18))) (jd_of jb_310 dX9_size_181) jo_310 jk_9_21 (fun _ _ => rfl)
theorem p310_184 (lv : jmL) (st : List jmV) (w : jmW) : rn 310 (184, lv, st, w) = rn 310 (187, lv, .inl (291) :: st, w) := q_sipush (jd_of jb_310 dX9_size_184) (by decide +kernel)
theorem p310_187 (lv : jmL) (st : List jmV) (w : jmW) (a : Nat) (j : Int) : rn 310 (187, lv, .inl j :: jvr a :: st, w) = jq_gr (mS w a) 0 j 310 188 lv (.inl (mI w a (jix j)) :: st) (w) := q_iald (jd_of jb_310 dX9_size_187)
theorem p310_188 (lv : jmL) (w : jmW) (x : Int) : rn 310 (188, lv, [.inl x], w) = some (some (.inl x), w) := q_ireturn (jd_of jb_310 dX9_size_188) jr_310
theorem p310_189 (lv : jmL) (st : List jmV) (w : jmW) : rn 310 (189, lv, st, w) = jq_lda 310 190 lv st w (jg lv 0) := q_aload_n (jd_of jb_310 dX9_size_189) rfl
theorem p310_190 (lv : jmL) (st : List jmV) (w : jmW) (a : Nat) : rn 310 (190, lv, jvr a :: st, w) = jq_gs (mS w a) (1, 9, 0) 310 193 lv (.inr (.inr (mR w a 18)) :: st) (w) := q_getf (v := fun w a => .inr (.inr (mR w a 18))) (jd_of jb_310 dX9_size_190) jo_310 jk_9_21 (fun _ _ => rfl)
theorem p310_193 (lv : jmL) (st : List jmV) (w : jmW) : rn 310 (193, lv, st, w) = rn 310 (196, lv, .inl (292) :: st, w) := q_sipush (jd_of jb_310 dX9_size_193) (by decide +kernel)
theorem p310_196 (lv : jmL) (st : List jmV) (w : jmW) (a : Nat) (j : Int) : rn 310 (196, lv, .inl j :: jvr a :: st, w) = jq_gr (mS w a) 0 j 310 197 lv (.inl (mI w a (jix j)) :: st) (w) := q_iald (jd_of jb_310 dX9_size_196)
theorem p310_197 (lv : jmL) (w : jmW) (x : Int) : rn 310 (197, lv, [.inl x], w) = some (some (.inl x), w) := q_ireturn (jd_of jb_310 dX9_size_197) jr_310
theorem p310_198 (lv : jmL) (st : List jmV) (w : jmW) : rn 310 (198, lv, st, w) = jq_lda 310 199 lv st w (jg lv 0) := q_aload_n (jd_of jb_310 dX9_size_198) rfl
theorem p310_199 (lv : jmL) (st : List jmV) (w : jmW) (a : Nat) : rn 310 (199, lv, jvr a :: st, w) = jq_gs (mS w a) (1, 9, 0) 310 202 lv (.inr (.inr (mR w a 18)) :: st) (w) := q_getf (v := fun w a => .inr (.inr (mR w a 18))) (jd_of jb_310 dX9_size_199) jo_310 jk_9_21 (fun _ _ => rfl)
theorem p310_202 (lv : jmL) (st : List jmV) (w : jmW) : rn 310 (202, lv, st, w) = rn 310 (205, lv, .inl (294) :: st, w) := q_sipush (jd_of jb_310 dX9_size_202) (by decide +kernel)
theorem p310_205 (lv : jmL) (st : List jmV) (w : jmW) (a : Nat) (j : Int) : rn 310 (205, lv, .inl j :: jvr a :: st, w) = jq_gr (mS w a) 0 j 310 206 lv (.inl (mI w a (jix j)) :: st) (w) := q_iald (jd_of jb_310 dX9_size_205)
theorem p310_206 (lv : jmL) (w : jmW) (x : Int) : rn 310 (206, lv, [.inl x], w) = some (some (.inl x), w) := q_ireturn (jd_of jb_310 dX9_size_206) jr_310
theorem p310_207 (lv : jmL) (st : List jmV) (w : jmW) : rn 310 (207, lv, st, w) = jq_lda 310 208 lv st w (jg lv 0) := q_aload_n (jd_of jb_310 dX9_size_207) rfl
theorem p310_208 (lv : jmL) (st : List jmV) (w : jmW) (a : Nat) : rn 310 (208, lv, jvr a :: st, w) = jq_gs (mS w a) (1, 9, 0) 310 211 lv (.inr (.inr (mR w a 18)) :: st) (w) := q_getf (v := fun w a => .inr (.inr (mR w a 18))) (jd_of jb_310 dX9_size_208) jo_310 jk_9_21 (fun _ _ => rfl)
theorem p310_211 (lv : jmL) (st : List jmV) (w : jmW) : rn 310 (211, lv, st, w) = rn 310 (214, lv, .inl (295) :: st, w) := q_sipush (jd_of jb_310 dX9_size_211) (by decide +kernel)
theorem p310_214 (lv : jmL) (st : List jmV) (w : jmW) (a : Nat) (j : Int) : rn 310 (214, lv, .inl j :: jvr a :: st, w) = jq_gr (mS w a) 0 j 310 215 lv (.inl (mI w a (jix j)) :: st) (w) := q_iald (jd_of jb_310 dX9_size_214)
theorem p310_215 (lv : jmL) (w : jmW) (x : Int) : rn 310 (215, lv, [.inl x], w) = some (some (.inl x), w) := q_ireturn (jd_of jb_310 dX9_size_215) jr_310
theorem p310_216 (lv : jmL) (st : List jmV) (w : jmW) : rn 310 (216, lv, st, w) = jq_lda 310 217 lv st w (jg lv 0) := q_aload_n (jd_of jb_310 dX9_size_216) rfl
theorem p310_217 (lv : jmL) (st : List jmV) (w : jmW) (a : Nat) : rn 310 (217, lv, jvr a :: st, w) = jq_gs (mS w a) (1, 9, 0) 310 220 lv (.inr (.inr (mR w a 18)) :: st) (w) := q_getf (v := fun w a => .inr (.inr (mR w a 18))) (jd_of jb_310 dX9_size_217) jo_310 jk_9_21 (fun _ _ => rfl)
theorem p310_220 (lv : jmL) (st : List jmV) (w : jmW) : rn 310 (220, lv, st, w) = rn 310 (223, lv, .inl (296) :: st, w) := q_sipush (jd_of jb_310 dX9_size_220) (by decide +kernel)
theorem p310_223 (lv : jmL) (st : List jmV) (w : jmW) (a : Nat) (j : Int) : rn 310 (223, lv, .inl j :: jvr a :: st, w) = jq_gr (mS w a) 0 j 310 224 lv (.inl (mI w a (jix j)) :: st) (w) := q_iald (jd_of jb_310 dX9_size_223)
theorem p310_224 (lv : jmL) (w : jmW) (x : Int) : rn 310 (224, lv, [.inl x], w) = some (some (.inl x), w) := q_ireturn (jd_of jb_310 dX9_size_224) jr_310
theorem p310_225 (lv : jmL) (st : List jmV) (w : jmW) : rn 310 (225, lv, st, w) = jq_lda 310 226 lv st w (jg lv 0) := q_aload_n (jd_of jb_310 dX9_size_225) rfl
theorem p310_226 (lv : jmL) (st : List jmV) (w : jmW) (a : Nat) : rn 310 (226, lv, jvr a :: st, w) = jq_gs (mS w a) (1, 9, 0) 310 229 lv (.inr (.inr (mR w a 3)) :: st) (w) := q_getf (v := fun w a => .inr (.inr (mR w a 3))) (jd_of jb_310 dX9_size_226) jo_310 jk_9_389 (fun _ _ => rfl)
theorem p310_229 (lv : jmL) (st : List jmV) (w : jmW) (a : Nat) : rn 310 (229, lv, jvr a :: st, w) = jq_gs (mS w a) (1, 8, 0) 310 232 lv (.inl (mI w a 12) :: st) (w) := q_getf (v := fun w a => .inl (mI w a 12)) (jd_of jb_310 dX9_size_229) jo_310 jk_9_287 (fun _ _ => rfl)
theorem p310_232 (lv : jmL) (w : jmW) (x : Int) : rn 310 (232, lv, [.inl x], w) = some (some (.inl x), w) := q_ireturn (jd_of jb_310 dX9_size_232) jr_310
theorem p310_233 (lv : jmL) (st : List jmV) (w : jmW) : rn 310 (233, lv, st, w) = jq_lda 310 234 lv st w (jg lv 0) := q_aload_n (jd_of jb_310 dX9_size_233) rfl
theorem p310_234 (lv : jmL) (st : List jmV) (w : jmW) (a : Nat) : rn 310 (234, lv, jvr a :: st, w) = jq_gs (mS w a) (1, 9, 0) 310 237 lv (.inl (mI w a 22) :: st) (w) := q_getf (v := fun w a => .inl (mI w a 22)) (jd_of jb_310 dX9_size_234) jo_310 jk_9_395 (fun _ _ => rfl)
theorem p310_237 (lv : jmL) (w : jmW) (x : Int) : rn 310 (237, lv, [.inl x], w) = some (some (.inl x), w) := q_ireturn (jd_of jb_310 dX9_size_237) jr_310
theorem p310_238 (lv : jmL) (st : List jmV) (w : jmW) : rn 310 (238, lv, st, w) = jq_lda 310 239 lv st w (jg lv 0) := q_aload_n (jd_of jb_310 dX9_size_238) rfl
theorem p310_239 (lv : jmL) (st : List jmV) (w : jmW) (a : Nat) : rn 310 (239, lv, jvr a :: st, w) = jq_gs (mS w a) (1, 9, 0) 310 242 lv (.inl (mI w a 23) :: st) (w) := q_getf (v := fun w a => .inl (mI w a 23)) (jd_of jb_310 dX9_size_239) jo_310 jk_9_398 (fun _ _ => rfl)
theorem p310_242 (lv : jmL) (w : jmW) (x : Int) : rn 310 (242, lv, [.inl x], w) = some (some (.inl x), w) := q_ireturn (jd_of jb_310 dX9_size_242) jr_310
theorem p311_0 (lv : jmL) (st : List jmV) (w : jmW) : rn 311 (0, lv, st, w) = jq_lda 311 1 lv st w (jg lv 0) := q_aload_n (jd_of jb_311 dX9_trouble_0) rfl
theorem p311_1 (lv : jmL) (st : List jmV) (w : jmW) : rn 311 (1, lv, st, w) = rn 311 (2, lv, .inl (0) :: st, w) := q_iconst (jd_of jb_311 dX9_trouble_1)
theorem p311_2 (lv : jmL) (st : List jmV) (w : jmW) (a : Nat) (x : Int) : rn 311 (2, lv, .inl x :: jvr a :: st, w) = jq_gs (mS w a) (1, 9, 0) 311 5 lv (st) (setI w a 0 x) := q_putf (jd_of jb_311 dX9_trouble_2) jo_311 jk_9_54 (Or.inl rfl) rfl
theorem p311_5 (lv : jmL) (st : List jmV) (w : jmW) : rn 311 (5, lv, st, w) = jq_lda 311 6 lv st w (jg lv 0) := q_aload_n (jd_of jb_311 dX9_trouble_5) rfl
theorem p311_6 (lv : jmL) (st : List jmV) (w : jmW) (a : Nat) : rn 311 (6, lv, jvr a :: st, w) = jq_gs (mS w a) (1, 9, 0) 311 9 lv (.inl (mI w a 1) :: st) (w) := q_getf (v := fun w a => .inl (mI w a 1)) (jd_of jb_311 dX9_trouble_6) jo_311 jk_9_57 (fun _ _ => rfl)
theorem p311_9 (lv : jmL) (w : jmW) (x : Int) : rn 311 (9, lv, [.inl x], w) = some (some (.inl x), w) := q_ireturn (jd_of jb_311 dX9_trouble_9) jr_311
theorem p312_0 (lv : jmL) (st : List jmV) (w : jmW) : rn 312 (0, lv, st, w) = rn 312 (3, lv, jvr (64 + mN w) :: st, newC w (1, 7, 0) 15) := q_new (jd_of jb_312 dL_law_0) jo_312 jk_10_8 (by decide) rfl
theorem p312_3i (lv : jmL) (st : List jmV) (w : jmW) (x : Int) : rn 312 (3, lv, .inl x :: st, w) = rn 312 (4, lv, .inl x :: .inl x :: st, w) := q_dup_i (jd_of jb_312 dL_law_3)
theorem p312_3a (lv : jmL) (st : List jmV) (w : jmW) (x : Option Nat) : rn 312 (3, lv, .inr (.inr x) :: st, w) = rn 312 (4, lv, .inr (.inr x) :: .inr (.inr x) :: st, w) := q_dup_a (jd_of jb_312 dL_law_3)
theorem p312_4 (lv : jmL) (st : List jmV) (w : jmW) (b : Nat) : rn 312 (4, lv, jvr b :: st, w) = jq_s (mS w b) (1, 7, 0) (jq_b (decide (jwd st ≤ 8)) (jq_c 312 7 lv st (rn 0 (0, [(0, jvr b)], [], w)))) := q_calli (as := []) (rest := st) (jd_of jb_312 dL_law_4) jo_312 jk_10_15 rfl rfl rfl jo_0 jf_312_0 (Nat.le_of_ble_eq_true rfl)
theorem p312_7 (lv : jmL) (st : List jmV) (w : jmW) (x : Option Nat) : rn 312 (7, lv, .inr (.inr x) :: st, w) = rn 312 (8, js lv 1 (.inr (.inr x)), st, w) := q_astore_n (jd_of jb_312 dL_law_7) rfl (by rw [jm_312]; decide)
theorem p312_8 (lv : jmL) (st : List jmV) (w : jmW) : rn 312 (8, lv, st, w) = rn 312 (11, lv, jvr (64 + mN w) :: st, newC w (1, 9, 0) 40) := q_new (jd_of jb_312 dL_law_8) jo_312 jk_10_16 (by decide) rfl
theorem p312_11i (lv : jmL) (st : List jmV) (w : jmW) (x : Int) : rn 312 (11, lv, .inl x :: st, w) = rn 312 (12, lv, .inl x :: .inl x :: st, w) := q_dup_i (jd_of jb_312 dL_law_11)
theorem p312_11a (lv : jmL) (st : List jmV) (w : jmW) (x : Option Nat) : rn 312 (11, lv, .inr (.inr x) :: st, w) = rn 312 (12, lv, .inr (.inr x) :: .inr (.inr x) :: st, w) := q_dup_a (jd_of jb_312 dL_law_11)
theorem p312_12 (lv : jmL) (st : List jmV) (w : jmW) (b : Nat) : rn 312 (12, lv, jvr b :: st, w) = jq_s (mS w b) (1, 9, 0) (jq_b (decide (jwd st ≤ 8)) (jq_c 312 15 lv st (rn 172 (0, [(0, jvr b)], [], w)))) := q_calli (as := []) (rest := st) (jd_of jb_312 dL_law_12) jo_312 jk_10_18 rfl rfl rfl jo_172 jf_312_172 (Nat.le_of_ble_eq_true rfl)
theorem p312_15 (lv : jmL) (st : List jmV) (w : jmW) (x : Option Nat) : rn 312 (15, lv, .inr (.inr x) :: st, w) = rn 312 (16, js lv 2 (.inr (.inr x)), st, w) := q_astore_n (jd_of jb_312 dL_law_15) rfl (by rw [jm_312]; decide)
theorem p312_16 (lv : jmL) (st : List jmV) (w : jmW) : rn 312 (16, lv, st, w) = rn 312 (17, lv, .inl (1) :: st, w) := q_iconst (jd_of jb_312 dL_law_16)
theorem p312_17 (lv : jmL) (st : List jmV) (w : jmW) (n : Int) : rn 312 (17, lv, .inl n :: st, w) = jq_gn n 312 19 lv (jvr (64 + mN w) :: st) (newC w (2, 2, (jw n).toNat) (jw n).toNat) := q_newl (jd_of jb_312 dL_law_17)
theorem p312_19 (lv : jmL) (st : List jmV) (w : jmW) (x : Option Nat) : rn 312 (19, lv, .inr (.inr x) :: st, w) = rn 312 (20, js lv 3 (.inr (.inr x)), st, w) := q_astore_n (jd_of jb_312 dL_law_19) rfl (by rw [jm_312]; decide)
theorem p312_20 (lv : jmL) (st : List jmV) (w : jmW) : rn 312 (20, lv, st, w) = rn 312 (21, lv, .inl (0) :: st, w) := q_iconst (jd_of jb_312 dL_law_20)
theorem p312_21 (lv : jmL) (st : List jmV) (w : jmW) (x : Int) : rn 312 (21, lv, .inl x :: st, w) = rn 312 (23, js lv 4 (.inl x), st, w) := q_istore (jd_of jb_312 dL_law_21) (by rw [jm_312]; decide)
theorem p312_23 (lv : jmL) (st : List jmV) (w : jmW) : rn 312 (23, lv, st, w) = jq_ldi 312 25 lv st w (jg lv 4) := q_iload (jd_of jb_312 dL_law_23)
theorem p312_25 (lv : jmL) (st : List jmV) (w : jmW) : rn 312 (25, lv, st, w) = jq_lda 312 26 lv st w (jg lv 0) := q_aload_n (jd_of jb_312 dL_law_25) rfl
theorem p312_26 (lv : jmL) (st : List jmV) (w : jmW) (a : Nat) : rn 312 (26, lv, jvr a :: st, w) = jq_gb (decide ((mS w a).1 = 2 ∨ (mS w a).1 = 4)) 312 27 lv (.inl ((mS w a).2.2 : Nat) :: st) (w) := q_alen (jd_of jb_312 dL_law_26)
theorem p312_27 (lv : jmL) (st : List jmV) (w : jmW) : rn 312 (27, lv, st, w) = rn 312 (29, lv, .inl (6) :: st, w) := q_bipush (jd_of jb_312 dL_law_27) (by decide +kernel)
theorem p312_29 (lv : jmL) (st : List jmV) (w : jmW) (x y : Int) : rn 312 (29, lv, .inl y :: .inl x :: st, w) = rn 312 (30, lv, .inl (x - y) :: st, w) := q_isub (jd_of jb_312 dL_law_29)
theorem p312_30 (lv : jmL) (st : List jmV) (w : jmW) (x y : Int) : rn 312 (30, lv, .inl y :: .inl x :: st, w) = if jw y < jw x then rn 312 (1596, lv, st, w) else rn 312 (33, lv, st, w) := q_icmp_gt (jd_of jb_312 dL_law_30) (by decide)
theorem p312_33 (lv : jmL) (st : List jmV) (w : jmW) : rn 312 (33, lv, st, w) = jq_lda 312 34 lv st w (jg lv 0) := q_aload_n (jd_of jb_312 dL_law_33) rfl
theorem p312_34 (lv : jmL) (st : List jmV) (w : jmW) : rn 312 (34, lv, st, w) = jq_ldi 312 36 lv st w (jg lv 4) := q_iload (jd_of jb_312 dL_law_34)
theorem p312_36 (lv : jmL) (st : List jmV) (w : jmW) (a : Nat) (j : Int) : rn 312 (36, lv, .inl j :: jvr a :: st, w) = jq_gr (mS w a) 0 j 312 37 lv (.inl (mI w a (jix j)) :: st) (w) := q_iald (jd_of jb_312 dL_law_36)
theorem p312_37 (lv : jmL) (st : List jmV) (w : jmW) : rn 312 (37, lv, st, w) = rn 312 (39, lv, .inl (63) :: st, w) := q_bipush (jd_of jb_312 dL_law_37) (by decide +kernel)
theorem p312_39 (lv : jmL) (st : List jmV) (w : jmW) (x y : Int) : rn 312 (39, lv, .inl y :: .inl x :: st, w) = rn 312 (40, lv, .inl (ji_and x y) :: st, w) := q_iand (jd_of jb_312 dL_law_39)
theorem p312_40 (lv : jmL) (st : List jmV) (w : jmW) (x : Int) : rn 312 (40, lv, .inl x :: st, w) = if jw x = 0 then rn 312 (260, lv, st, w) else if jw x = 1 then rn 312 (333, lv, st, w) else if jw x = 2 then rn 312 (358, lv, st, w) else if jw x = 3 then rn 312 (371, lv, st, w) else if jw x = 4 then rn 312 (384, lv, st, w) else if jw x = 5 then rn 312 (421, lv, st, w) else if jw x = 6 then rn 312 (434, lv, st, w) else if jw x = 7 then rn 312 (471, lv, st, w) else if jw x = 8 then rn 312 (508, lv, st, w) else if jw x = 9 then rn 312 (533, lv, st, w) else if jw x = 10 then rn 312 (546, lv, st, w) else if jw x = 11 then rn 312 (559, lv, st, w) else if jw x = 12 then rn 312 (584, lv, st, w) else if jw x = 13 then rn 312 (597, lv, st, w) else if jw x = 14 then rn 312 (622, lv, st, w) else if jw x = 15 then rn 312 (659, lv, st, w) else if jw x = 16 then rn 312 (696, lv, st, w) else if jw x = 17 then rn 312 (721, lv, st, w) else if jw x = 18 then rn 312 (746, lv, st, w) else if jw x = 19 then rn 312 (771, lv, st, w) else if jw x = 20 then rn 312 (796, lv, st, w) else if jw x = 21 then rn 312 (821, lv, st, w) else if jw x = 22 then rn 312 (846, lv, st, w) else if jw x = 23 then rn 312 (883, lv, st, w) else if jw x = 24 then rn 312 (920, lv, st, w) else if jw x = 25 then rn 312 (933, lv, st, w) else if jw x = 26 then rn 312 (946, lv, st, w) else if jw x = 27 then rn 312 (971, lv, st, w) else if jw x = 28 then rn 312 (996, lv, st, w) else if jw x = 29 then rn 312 (1021, lv, st, w) else if jw x = 30 then rn 312 (1058, lv, st, w) else if jw x = 31 then rn 312 (1107, lv, st, w) else if jw x = 32 then rn 312 (1144, lv, st, w) else if jw x = 33 then rn 312 (1157, lv, st, w) else if jw x = 34 then rn 312 (1170, lv, st, w) else if jw x = 35 then rn 312 (1183, lv, st, w) else if jw x = 36 then rn 312 (1196, lv, st, w) else if jw x = 37 then rn 312 (1209, lv, st, w) else if jw x = 38 then rn 312 (1234, lv, st, w) else if jw x = 39 then rn 312 (1259, lv, st, w) else if jw x = 40 then rn 312 (1296, lv, st, w) else if jw x = 41 then rn 312 (1321, lv, st, w) else if jw x = 42 then rn 312 (1358, lv, st, w) else if jw x = 43 then rn 312 (1383, lv, st, w) else if jw x = 44 then rn 312 (1396, lv, st, w) else if jw x = 45 then rn 312 (1409, lv, st, w) else if jw x = 46 then rn 312 (1434, lv, st, w) else if jw x = 47 then rn 312 (1471, lv, st, w) else if jw x = 48 then rn 312 (1496, lv, st, w) else if jw x = 49 then rn 312 (1552, lv, st, w) else if jw x = 50 then rn 312 (1577, lv, st, w) else rn 312 (1590, lv, st, w) := by
  by_cases h0 : jw x = 0
  · rw [if_pos h0]; exact q_table (jd_of jb_312 dL_law_40) (by omega) (by omega) (off := 220) (by rw [h0]; rfl) (by decide)
  rw [if_neg h0]
  by_cases h1 : jw x = 1
  · rw [if_pos h1]; exact q_table (jd_of jb_312 dL_law_40) (by omega) (by omega) (off := 293) (by rw [h1]; rfl) (by decide)
  rw [if_neg h1]
  by_cases h2 : jw x = 2
  · rw [if_pos h2]; exact q_table (jd_of jb_312 dL_law_40) (by omega) (by omega) (off := 318) (by rw [h2]; rfl) (by decide)
  rw [if_neg h2]
  by_cases h3 : jw x = 3
  · rw [if_pos h3]; exact q_table (jd_of jb_312 dL_law_40) (by omega) (by omega) (off := 331) (by rw [h3]; rfl) (by decide)
  rw [if_neg h3]
  by_cases h4 : jw x = 4
  · rw [if_pos h4]; exact q_table (jd_of jb_312 dL_law_40) (by omega) (by omega) (off := 344) (by rw [h4]; rfl) (by decide)
  rw [if_neg h4]
  by_cases h5 : jw x = 5
  · rw [if_pos h5]; exact q_table (jd_of jb_312 dL_law_40) (by omega) (by omega) (off := 381) (by rw [h5]; rfl) (by decide)
  rw [if_neg h5]
  by_cases h6 : jw x = 6
  · rw [if_pos h6]; exact q_table (jd_of jb_312 dL_law_40) (by omega) (by omega) (off := 394) (by rw [h6]; rfl) (by decide)
  rw [if_neg h6]
  by_cases h7 : jw x = 7
  · rw [if_pos h7]; exact q_table (jd_of jb_312 dL_law_40) (by omega) (by omega) (off := 431) (by rw [h7]; rfl) (by decide)
  rw [if_neg h7]
  by_cases h8 : jw x = 8
  · rw [if_pos h8]; exact q_table (jd_of jb_312 dL_law_40) (by omega) (by omega) (off := 468) (by rw [h8]; rfl) (by decide)
  rw [if_neg h8]
  by_cases h9 : jw x = 9
  · rw [if_pos h9]; exact q_table (jd_of jb_312 dL_law_40) (by omega) (by omega) (off := 493) (by rw [h9]; rfl) (by decide)
  rw [if_neg h9]
  by_cases h10 : jw x = 10
  · rw [if_pos h10]; exact q_table (jd_of jb_312 dL_law_40) (by omega) (by omega) (off := 506) (by rw [h10]; rfl) (by decide)
  rw [if_neg h10]
  by_cases h11 : jw x = 11
  · rw [if_pos h11]; exact q_table (jd_of jb_312 dL_law_40) (by omega) (by omega) (off := 519) (by rw [h11]; rfl) (by decide)
  rw [if_neg h11]
  by_cases h12 : jw x = 12
  · rw [if_pos h12]; exact q_table (jd_of jb_312 dL_law_40) (by omega) (by omega) (off := 544) (by rw [h12]; rfl) (by decide)
  rw [if_neg h12]
  by_cases h13 : jw x = 13
  · rw [if_pos h13]; exact q_table (jd_of jb_312 dL_law_40) (by omega) (by omega) (off := 557) (by rw [h13]; rfl) (by decide)
  rw [if_neg h13]
  by_cases h14 : jw x = 14
  · rw [if_pos h14]; exact q_table (jd_of jb_312 dL_law_40) (by omega) (by omega) (off := 582) (by rw [h14]; rfl) (by decide)
  rw [if_neg h14]
  by_cases h15 : jw x = 15
  · rw [if_pos h15]; exact q_table (jd_of jb_312 dL_law_40) (by omega) (by omega) (off := 619) (by rw [h15]; rfl) (by decide)
  rw [if_neg h15]
  by_cases h16 : jw x = 16
  · rw [if_pos h16]; exact q_table (jd_of jb_312 dL_law_40) (by omega) (by omega) (off := 656) (by rw [h16]; rfl) (by decide)
  rw [if_neg h16]
  by_cases h17 : jw x = 17
  · rw [if_pos h17]; exact q_table (jd_of jb_312 dL_law_40) (by omega) (by omega) (off := 681) (by rw [h17]; rfl) (by decide)
  rw [if_neg h17]
  by_cases h18 : jw x = 18
  · rw [if_pos h18]; exact q_table (jd_of jb_312 dL_law_40) (by omega) (by omega) (off := 706) (by rw [h18]; rfl) (by decide)
  rw [if_neg h18]
  by_cases h19 : jw x = 19
  · rw [if_pos h19]; exact q_table (jd_of jb_312 dL_law_40) (by omega) (by omega) (off := 731) (by rw [h19]; rfl) (by decide)
  rw [if_neg h19]
  by_cases h20 : jw x = 20
  · rw [if_pos h20]; exact q_table (jd_of jb_312 dL_law_40) (by omega) (by omega) (off := 756) (by rw [h20]; rfl) (by decide)
  rw [if_neg h20]
  by_cases h21 : jw x = 21
  · rw [if_pos h21]; exact q_table (jd_of jb_312 dL_law_40) (by omega) (by omega) (off := 781) (by rw [h21]; rfl) (by decide)
  rw [if_neg h21]
  by_cases h22 : jw x = 22
  · rw [if_pos h22]; exact q_table (jd_of jb_312 dL_law_40) (by omega) (by omega) (off := 806) (by rw [h22]; rfl) (by decide)
  rw [if_neg h22]
  by_cases h23 : jw x = 23
  · rw [if_pos h23]; exact q_table (jd_of jb_312 dL_law_40) (by omega) (by omega) (off := 843) (by rw [h23]; rfl) (by decide)
  rw [if_neg h23]
  by_cases h24 : jw x = 24
  · rw [if_pos h24]; exact q_table (jd_of jb_312 dL_law_40) (by omega) (by omega) (off := 880) (by rw [h24]; rfl) (by decide)
  rw [if_neg h24]
  by_cases h25 : jw x = 25
  · rw [if_pos h25]; exact q_table (jd_of jb_312 dL_law_40) (by omega) (by omega) (off := 893) (by rw [h25]; rfl) (by decide)
  rw [if_neg h25]
  by_cases h26 : jw x = 26
  · rw [if_pos h26]; exact q_table (jd_of jb_312 dL_law_40) (by omega) (by omega) (off := 906) (by rw [h26]; rfl) (by decide)
  rw [if_neg h26]
  by_cases h27 : jw x = 27
  · rw [if_pos h27]; exact q_table (jd_of jb_312 dL_law_40) (by omega) (by omega) (off := 931) (by rw [h27]; rfl) (by decide)
  rw [if_neg h27]
  by_cases h28 : jw x = 28
  · rw [if_pos h28]; exact q_table (jd_of jb_312 dL_law_40) (by omega) (by omega) (off := 956) (by rw [h28]; rfl) (by decide)
  rw [if_neg h28]
  by_cases h29 : jw x = 29
  · rw [if_pos h29]; exact q_table (jd_of jb_312 dL_law_40) (by omega) (by omega) (off := 981) (by rw [h29]; rfl) (by decide)
  rw [if_neg h29]
  by_cases h30 : jw x = 30
  · rw [if_pos h30]; exact q_table (jd_of jb_312 dL_law_40) (by omega) (by omega) (off := 1018) (by rw [h30]; rfl) (by decide)
  rw [if_neg h30]
  by_cases h31 : jw x = 31
  · rw [if_pos h31]; exact q_table (jd_of jb_312 dL_law_40) (by omega) (by omega) (off := 1067) (by rw [h31]; rfl) (by decide)
  rw [if_neg h31]
  by_cases h32 : jw x = 32
  · rw [if_pos h32]; exact q_table (jd_of jb_312 dL_law_40) (by omega) (by omega) (off := 1104) (by rw [h32]; rfl) (by decide)
  rw [if_neg h32]
  by_cases h33 : jw x = 33
  · rw [if_pos h33]; exact q_table (jd_of jb_312 dL_law_40) (by omega) (by omega) (off := 1117) (by rw [h33]; rfl) (by decide)
  rw [if_neg h33]
  by_cases h34 : jw x = 34
  · rw [if_pos h34]; exact q_table (jd_of jb_312 dL_law_40) (by omega) (by omega) (off := 1130) (by rw [h34]; rfl) (by decide)
  rw [if_neg h34]
  by_cases h35 : jw x = 35
  · rw [if_pos h35]; exact q_table (jd_of jb_312 dL_law_40) (by omega) (by omega) (off := 1143) (by rw [h35]; rfl) (by decide)
  rw [if_neg h35]
  by_cases h36 : jw x = 36
  · rw [if_pos h36]; exact q_table (jd_of jb_312 dL_law_40) (by omega) (by omega) (off := 1156) (by rw [h36]; rfl) (by decide)
  rw [if_neg h36]
  by_cases h37 : jw x = 37
  · rw [if_pos h37]; exact q_table (jd_of jb_312 dL_law_40) (by omega) (by omega) (off := 1169) (by rw [h37]; rfl) (by decide)
  rw [if_neg h37]
  by_cases h38 : jw x = 38
  · rw [if_pos h38]; exact q_table (jd_of jb_312 dL_law_40) (by omega) (by omega) (off := 1194) (by rw [h38]; rfl) (by decide)
  rw [if_neg h38]
  by_cases h39 : jw x = 39
  · rw [if_pos h39]; exact q_table (jd_of jb_312 dL_law_40) (by omega) (by omega) (off := 1219) (by rw [h39]; rfl) (by decide)
  rw [if_neg h39]
  by_cases h40 : jw x = 40
  · rw [if_pos h40]; exact q_table (jd_of jb_312 dL_law_40) (by omega) (by omega) (off := 1256) (by rw [h40]; rfl) (by decide)
  rw [if_neg h40]
  by_cases h41 : jw x = 41
  · rw [if_pos h41]; exact q_table (jd_of jb_312 dL_law_40) (by omega) (by omega) (off := 1281) (by rw [h41]; rfl) (by decide)
  rw [if_neg h41]
  by_cases h42 : jw x = 42
  · rw [if_pos h42]; exact q_table (jd_of jb_312 dL_law_40) (by omega) (by omega) (off := 1318) (by rw [h42]; rfl) (by decide)
  rw [if_neg h42]
  by_cases h43 : jw x = 43
  · rw [if_pos h43]; exact q_table (jd_of jb_312 dL_law_40) (by omega) (by omega) (off := 1343) (by rw [h43]; rfl) (by decide)
  rw [if_neg h43]
  by_cases h44 : jw x = 44
  · rw [if_pos h44]; exact q_table (jd_of jb_312 dL_law_40) (by omega) (by omega) (off := 1356) (by rw [h44]; rfl) (by decide)
  rw [if_neg h44]
  by_cases h45 : jw x = 45
  · rw [if_pos h45]; exact q_table (jd_of jb_312 dL_law_40) (by omega) (by omega) (off := 1369) (by rw [h45]; rfl) (by decide)
  rw [if_neg h45]
  by_cases h46 : jw x = 46
  · rw [if_pos h46]; exact q_table (jd_of jb_312 dL_law_40) (by omega) (by omega) (off := 1394) (by rw [h46]; rfl) (by decide)
  rw [if_neg h46]
  by_cases h47 : jw x = 47
  · rw [if_pos h47]; exact q_table (jd_of jb_312 dL_law_40) (by omega) (by omega) (off := 1431) (by rw [h47]; rfl) (by decide)
  rw [if_neg h47]
  by_cases h48 : jw x = 48
  · rw [if_pos h48]; exact q_table (jd_of jb_312 dL_law_40) (by omega) (by omega) (off := 1456) (by rw [h48]; rfl) (by decide)
  rw [if_neg h48]
  by_cases h49 : jw x = 49
  · rw [if_pos h49]; exact q_table (jd_of jb_312 dL_law_40) (by omega) (by omega) (off := 1512) (by rw [h49]; rfl) (by decide)
  rw [if_neg h49]
  by_cases h50 : jw x = 50
  · rw [if_pos h50]; exact q_table (jd_of jb_312 dL_law_40) (by omega) (by omega) (off := 1537) (by rw [h50]; rfl) (by decide)
  rw [if_neg h50]
  exact q_tabled (jd_of jb_312 dL_law_40) (by omega) (by decide)
theorem p312_260 (lv : jmL) (st : List jmV) (w : jmW) : rn 312 (260, lv, st, w) = jq_lda 312 261 lv st w (jg lv 1) := q_aload_n (jd_of jb_312 dL_law_260) rfl
theorem p312_261 (lv : jmL) (st : List jmV) (w : jmW) : rn 312 (261, lv, st, w) = jq_lda 312 262 lv st w (jg lv 0) := q_aload_n (jd_of jb_312 dL_law_261) rfl
theorem p312_262 (lv : jmL) (st : List jmV) (w : jmW) : rn 312 (262, lv, st, w) = jq_ldi 312 264 lv st w (jg lv 4) := q_iload (jd_of jb_312 dL_law_262)
theorem p312_264 (lv : jmL) (st : List jmV) (w : jmW) : rn 312 (264, lv, st, w) = rn 312 (265, lv, .inl (1) :: st, w) := q_iconst (jd_of jb_312 dL_law_264)
theorem p312_265 (lv : jmL) (st : List jmV) (w : jmW) (x y : Int) : rn 312 (265, lv, .inl y :: .inl x :: st, w) = rn 312 (266, lv, .inl (x + y) :: st, w) := q_iadd (jd_of jb_312 dL_law_265)
theorem p312_266 (lv : jmL) (st : List jmV) (w : jmW) (a : Nat) (j : Int) : rn 312 (266, lv, .inl j :: jvr a :: st, w) = jq_gr (mS w a) 0 j 312 267 lv (.inl (mI w a (jix j)) :: st) (w) := q_iald (jd_of jb_312 dL_law_266)
theorem p312_267 (lv : jmL) (st : List jmV) (w : jmW) : rn 312 (267, lv, st, w) = jq_lda 312 268 lv st w (jg lv 0) := q_aload_n (jd_of jb_312 dL_law_267) rfl
theorem p312_268 (lv : jmL) (st : List jmV) (w : jmW) : rn 312 (268, lv, st, w) = jq_ldi 312 270 lv st w (jg lv 4) := q_iload (jd_of jb_312 dL_law_268)
theorem p312_270 (lv : jmL) (st : List jmV) (w : jmW) : rn 312 (270, lv, st, w) = rn 312 (271, lv, .inl (2) :: st, w) := q_iconst (jd_of jb_312 dL_law_270)
theorem p312_271 (lv : jmL) (st : List jmV) (w : jmW) (x y : Int) : rn 312 (271, lv, .inl y :: .inl x :: st, w) = rn 312 (272, lv, .inl (x + y) :: st, w) := q_iadd (jd_of jb_312 dL_law_271)
theorem p312_272 (lv : jmL) (st : List jmV) (w : jmW) (a : Nat) (j : Int) : rn 312 (272, lv, .inl j :: jvr a :: st, w) = jq_gr (mS w a) 0 j 312 273 lv (.inl (mI w a (jix j)) :: st) (w) := q_iald (jd_of jb_312 dL_law_272)
theorem p312_273 (lv : jmL) (st : List jmV) (w : jmW) : rn 312 (273, lv, st, w) = jq_lda 312 274 lv st w (jg lv 0) := q_aload_n (jd_of jb_312 dL_law_273) rfl
theorem p312_274 (lv : jmL) (st : List jmV) (w : jmW) : rn 312 (274, lv, st, w) = jq_ldi 312 276 lv st w (jg lv 4) := q_iload (jd_of jb_312 dL_law_274)
theorem p312_276 (lv : jmL) (st : List jmV) (w : jmW) : rn 312 (276, lv, st, w) = rn 312 (277, lv, .inl (3) :: st, w) := q_iconst (jd_of jb_312 dL_law_276)
theorem p312_277 (lv : jmL) (st : List jmV) (w : jmW) (x y : Int) : rn 312 (277, lv, .inl y :: .inl x :: st, w) = rn 312 (278, lv, .inl (x + y) :: st, w) := q_iadd (jd_of jb_312 dL_law_277)
theorem p312_278 (lv : jmL) (st : List jmV) (w : jmW) (a : Nat) (j : Int) : rn 312 (278, lv, .inl j :: jvr a :: st, w) = jq_gr (mS w a) 0 j 312 279 lv (.inl (mI w a (jix j)) :: st) (w) := q_iald (jd_of jb_312 dL_law_278)
theorem p312_279 (lv : jmL) (st : List jmV) (w : jmW) : rn 312 (279, lv, st, w) = jq_lda 312 280 lv st w (jg lv 0) := q_aload_n (jd_of jb_312 dL_law_279) rfl
theorem p312_280 (lv : jmL) (st : List jmV) (w : jmW) : rn 312 (280, lv, st, w) = jq_ldi 312 282 lv st w (jg lv 4) := q_iload (jd_of jb_312 dL_law_280)
theorem p312_282 (lv : jmL) (st : List jmV) (w : jmW) : rn 312 (282, lv, st, w) = rn 312 (283, lv, .inl (4) :: st, w) := q_iconst (jd_of jb_312 dL_law_282)
theorem p312_283 (lv : jmL) (st : List jmV) (w : jmW) (x y : Int) : rn 312 (283, lv, .inl y :: .inl x :: st, w) = rn 312 (284, lv, .inl (x + y) :: st, w) := q_iadd (jd_of jb_312 dL_law_283)
theorem p312_284 (lv : jmL) (st : List jmV) (w : jmW) (a : Nat) (j : Int) : rn 312 (284, lv, .inl j :: jvr a :: st, w) = jq_gr (mS w a) 0 j 312 285 lv (.inl (mI w a (jix j)) :: st) (w) := q_iald (jd_of jb_312 dL_law_284)
theorem p312_285 (lv : jmL) (st : List jmV) (w : jmW) : rn 312 (285, lv, st, w) = jq_lda 312 286 lv st w (jg lv 0) := q_aload_n (jd_of jb_312 dL_law_285) rfl
theorem p312_286 (lv : jmL) (st : List jmV) (w : jmW) : rn 312 (286, lv, st, w) = jq_ldi 312 288 lv st w (jg lv 4) := q_iload (jd_of jb_312 dL_law_286)
theorem p312_288 (lv : jmL) (st : List jmV) (w : jmW) : rn 312 (288, lv, st, w) = rn 312 (289, lv, .inl (5) :: st, w) := q_iconst (jd_of jb_312 dL_law_288)
theorem p312_289 (lv : jmL) (st : List jmV) (w : jmW) (x y : Int) : rn 312 (289, lv, .inl y :: .inl x :: st, w) = rn 312 (290, lv, .inl (x + y) :: st, w) := q_iadd (jd_of jb_312 dL_law_289)
theorem p312_290 (lv : jmL) (st : List jmV) (w : jmW) (a : Nat) (j : Int) : rn 312 (290, lv, .inl j :: jvr a :: st, w) = jq_gr (mS w a) 0 j 312 291 lv (.inl (mI w a (jix j)) :: st) (w) := q_iald (jd_of jb_312 dL_law_290)
theorem p312_291 (lv : jmL) (st : List jmV) (w : jmW) (b : Nat) (x1 : Int) (x2 : Int) (x3 : Int) (x4 : Int) (x5 : Int) : rn 312 (291, lv, .inl x5 :: .inl x4 :: .inl x3 :: .inl x2 :: .inl x1 :: jvr b :: st, w) = jq_s (mS w b) (1, 7, 0) (jq_b (decide (jwd st ≤ 8)) (jq_c 312 294 lv st (rn 11 (0, [(0, jvr b), (1, .inl x1), (2, .inl x2), (3, .inl x3), (4, .inl x4), (5, .inl x5)], [], w)))) := q_callv (as := [.inl x1, .inl x2, .inl x3, .inl x4, .inl x5]) (rest := st) (jd_of jb_312 dL_law_291) jo_312 jk_10_19 rfl rfl rfl jo_11 jf_312_11 (Nat.le_of_ble_eq_true rfl)
theorem p312_294 (lv : jmL) (st : List jmV) (w : jmW) : rn 312 (294, lv, st, w) = jq_lda 312 295 lv st w (jg lv 2) := q_aload_n (jd_of jb_312 dL_law_294) rfl
theorem p312_295 (lv : jmL) (st : List jmV) (w : jmW) : rn 312 (295, lv, st, w) = jq_lda 312 296 lv st w (jg lv 0) := q_aload_n (jd_of jb_312 dL_law_295) rfl
theorem p312_296 (lv : jmL) (st : List jmV) (w : jmW) : rn 312 (296, lv, st, w) = jq_ldi 312 298 lv st w (jg lv 4) := q_iload (jd_of jb_312 dL_law_296)
theorem p312_298 (lv : jmL) (st : List jmV) (w : jmW) : rn 312 (298, lv, st, w) = rn 312 (299, lv, .inl (1) :: st, w) := q_iconst (jd_of jb_312 dL_law_298)
theorem p312_299 (lv : jmL) (st : List jmV) (w : jmW) (x y : Int) : rn 312 (299, lv, .inl y :: .inl x :: st, w) = rn 312 (300, lv, .inl (x + y) :: st, w) := q_iadd (jd_of jb_312 dL_law_299)
theorem p312_300 (lv : jmL) (st : List jmV) (w : jmW) (a : Nat) (j : Int) : rn 312 (300, lv, .inl j :: jvr a :: st, w) = jq_gr (mS w a) 0 j 312 301 lv (.inl (mI w a (jix j)) :: st) (w) := q_iald (jd_of jb_312 dL_law_300)
theorem p312_301 (lv : jmL) (st : List jmV) (w : jmW) : rn 312 (301, lv, st, w) = jq_lda 312 302 lv st w (jg lv 0) := q_aload_n (jd_of jb_312 dL_law_301) rfl
theorem p312_302 (lv : jmL) (st : List jmV) (w : jmW) : rn 312 (302, lv, st, w) = jq_ldi 312 304 lv st w (jg lv 4) := q_iload (jd_of jb_312 dL_law_302)
theorem p312_304 (lv : jmL) (st : List jmV) (w : jmW) : rn 312 (304, lv, st, w) = rn 312 (305, lv, .inl (2) :: st, w) := q_iconst (jd_of jb_312 dL_law_304)
theorem p312_305 (lv : jmL) (st : List jmV) (w : jmW) (x y : Int) : rn 312 (305, lv, .inl y :: .inl x :: st, w) = rn 312 (306, lv, .inl (x + y) :: st, w) := q_iadd (jd_of jb_312 dL_law_305)
theorem p312_306 (lv : jmL) (st : List jmV) (w : jmW) (a : Nat) (j : Int) : rn 312 (306, lv, .inl j :: jvr a :: st, w) = jq_gr (mS w a) 0 j 312 307 lv (.inl (mI w a (jix j)) :: st) (w) := q_iald (jd_of jb_312 dL_law_306)
theorem p312_307 (lv : jmL) (st : List jmV) (w : jmW) : rn 312 (307, lv, st, w) = jq_lda 312 308 lv st w (jg lv 0) := q_aload_n (jd_of jb_312 dL_law_307) rfl
theorem p312_308 (lv : jmL) (st : List jmV) (w : jmW) : rn 312 (308, lv, st, w) = jq_ldi 312 310 lv st w (jg lv 4) := q_iload (jd_of jb_312 dL_law_308)
theorem p312_310 (lv : jmL) (st : List jmV) (w : jmW) : rn 312 (310, lv, st, w) = rn 312 (311, lv, .inl (3) :: st, w) := q_iconst (jd_of jb_312 dL_law_310)
theorem p312_311 (lv : jmL) (st : List jmV) (w : jmW) (x y : Int) : rn 312 (311, lv, .inl y :: .inl x :: st, w) = rn 312 (312, lv, .inl (x + y) :: st, w) := q_iadd (jd_of jb_312 dL_law_311)
theorem p312_312 (lv : jmL) (st : List jmV) (w : jmW) (a : Nat) (j : Int) : rn 312 (312, lv, .inl j :: jvr a :: st, w) = jq_gr (mS w a) 0 j 312 313 lv (.inl (mI w a (jix j)) :: st) (w) := q_iald (jd_of jb_312 dL_law_312)
theorem p312_313 (lv : jmL) (st : List jmV) (w : jmW) : rn 312 (313, lv, st, w) = jq_lda 312 314 lv st w (jg lv 0) := q_aload_n (jd_of jb_312 dL_law_313) rfl
theorem p312_314 (lv : jmL) (st : List jmV) (w : jmW) : rn 312 (314, lv, st, w) = jq_ldi 312 316 lv st w (jg lv 4) := q_iload (jd_of jb_312 dL_law_314)
theorem p312_316 (lv : jmL) (st : List jmV) (w : jmW) : rn 312 (316, lv, st, w) = rn 312 (317, lv, .inl (4) :: st, w) := q_iconst (jd_of jb_312 dL_law_316)
theorem p312_317 (lv : jmL) (st : List jmV) (w : jmW) (x y : Int) : rn 312 (317, lv, .inl y :: .inl x :: st, w) = rn 312 (318, lv, .inl (x + y) :: st, w) := q_iadd (jd_of jb_312 dL_law_317)
theorem p312_318 (lv : jmL) (st : List jmV) (w : jmW) (a : Nat) (j : Int) : rn 312 (318, lv, .inl j :: jvr a :: st, w) = jq_gr (mS w a) 0 j 312 319 lv (.inl (mI w a (jix j)) :: st) (w) := q_iald (jd_of jb_312 dL_law_318)
theorem p312_319 (lv : jmL) (st : List jmV) (w : jmW) : rn 312 (319, lv, st, w) = jq_lda 312 320 lv st w (jg lv 0) := q_aload_n (jd_of jb_312 dL_law_319) rfl
theorem p312_320 (lv : jmL) (st : List jmV) (w : jmW) : rn 312 (320, lv, st, w) = jq_ldi 312 322 lv st w (jg lv 4) := q_iload (jd_of jb_312 dL_law_320)
theorem p312_322 (lv : jmL) (st : List jmV) (w : jmW) : rn 312 (322, lv, st, w) = rn 312 (323, lv, .inl (5) :: st, w) := q_iconst (jd_of jb_312 dL_law_322)
theorem p312_323 (lv : jmL) (st : List jmV) (w : jmW) (x y : Int) : rn 312 (323, lv, .inl y :: .inl x :: st, w) = rn 312 (324, lv, .inl (x + y) :: st, w) := q_iadd (jd_of jb_312 dL_law_323)
theorem p312_324 (lv : jmL) (st : List jmV) (w : jmW) (a : Nat) (j : Int) : rn 312 (324, lv, .inl j :: jvr a :: st, w) = jq_gr (mS w a) 0 j 312 325 lv (.inl (mI w a (jix j)) :: st) (w) := q_iald (jd_of jb_312 dL_law_324)
theorem p312_325 (lv : jmL) (st : List jmV) (w : jmW) (b : Nat) (x1 : Int) (x2 : Int) (x3 : Int) (x4 : Int) (x5 : Int) : rn 312 (325, lv, .inl x5 :: .inl x4 :: .inl x3 :: .inl x2 :: .inl x1 :: jvr b :: st, w) = jq_s (mS w b) (1, 9, 0) (jq_b (decide (jwd st ≤ 8)) (jq_c 312 328 lv st (rn 174 (0, [(0, jvr b), (1, .inl x1), (2, .inl x2), (3, .inl x3), (4, .inl x4), (5, .inl x5)], [], w)))) := q_callv (as := [.inl x1, .inl x2, .inl x3, .inl x4, .inl x5]) (rest := st) (jd_of jb_312 dL_law_325) jo_312 jk_10_23 rfl rfl rfl jo_174 jf_312_174 (Nat.le_of_ble_eq_true rfl)
theorem p312_328 (lv : jmL) (st : List jmV) (w : jmW) (x y : Int) : rn 312 (328, lv, .inl y :: .inl x :: st, w) = if jw x = jw y then rn 312 (1590, lv, st, w) else rn 312 (331, lv, st, w) := q_icmp_eq (jd_of jb_312 dL_law_328) (by decide)
theorem p312_331 (lv : jmL) (st : List jmV) (w : jmW) : rn 312 (331, lv, st, w) = rn 312 (332, lv, .inl (0) :: st, w) := q_iconst (jd_of jb_312 dL_law_331)
theorem p312_332 (lv : jmL) (w : jmW) (x : Int) : rn 312 (332, lv, [.inl x], w) = jq_b (decide (x = 0 ∨ x = 1)) (some (some (.inl x), w)) := q_zreturn (jd_of jb_312 dL_law_332) jr_312
theorem p312_333 (lv : jmL) (st : List jmV) (w : jmW) : rn 312 (333, lv, st, w) = jq_lda 312 334 lv st w (jg lv 1) := q_aload_n (jd_of jb_312 dL_law_333) rfl
theorem p312_334 (lv : jmL) (st : List jmV) (w : jmW) : rn 312 (334, lv, st, w) = jq_lda 312 335 lv st w (jg lv 0) := q_aload_n (jd_of jb_312 dL_law_334) rfl
theorem p312_335 (lv : jmL) (st : List jmV) (w : jmW) : rn 312 (335, lv, st, w) = jq_ldi 312 337 lv st w (jg lv 4) := q_iload (jd_of jb_312 dL_law_335)
theorem p312_337 (lv : jmL) (st : List jmV) (w : jmW) : rn 312 (337, lv, st, w) = rn 312 (338, lv, .inl (1) :: st, w) := q_iconst (jd_of jb_312 dL_law_337)
theorem p312_338 (lv : jmL) (st : List jmV) (w : jmW) (x y : Int) : rn 312 (338, lv, .inl y :: .inl x :: st, w) = rn 312 (339, lv, .inl (x + y) :: st, w) := q_iadd (jd_of jb_312 dL_law_338)
theorem p312_339 (lv : jmL) (st : List jmV) (w : jmW) (a : Nat) (j : Int) : rn 312 (339, lv, .inl j :: jvr a :: st, w) = jq_gr (mS w a) 0 j 312 340 lv (.inl (mI w a (jix j)) :: st) (w) := q_iald (jd_of jb_312 dL_law_339)
theorem p312_340 (lv : jmL) (st : List jmV) (w : jmW) (b : Nat) (x1 : Int) : rn 312 (340, lv, .inl x1 :: jvr b :: st, w) = jq_s (mS w b) (1, 7, 0) (jq_b (decide (jwd st ≤ 8)) (jq_c 312 343 lv st (rn 18 (0, [(0, jvr b), (1, .inl x1)], [], w)))) := q_callv (as := [.inl x1]) (rest := st) (jd_of jb_312 dL_law_340) jo_312 jk_10_24 rfl rfl rfl jo_18 jf_312_18 (Nat.le_of_ble_eq_true rfl)
theorem p312_343 (lv : jmL) (st : List jmV) (w : jmW) : rn 312 (343, lv, st, w) = jq_lda 312 344 lv st w (jg lv 2) := q_aload_n (jd_of jb_312 dL_law_343) rfl
theorem p312_344 (lv : jmL) (st : List jmV) (w : jmW) : rn 312 (344, lv, st, w) = jq_lda 312 345 lv st w (jg lv 0) := q_aload_n (jd_of jb_312 dL_law_344) rfl
theorem p312_345 (lv : jmL) (st : List jmV) (w : jmW) : rn 312 (345, lv, st, w) = jq_ldi 312 347 lv st w (jg lv 4) := q_iload (jd_of jb_312 dL_law_345)
theorem p312_347 (lv : jmL) (st : List jmV) (w : jmW) : rn 312 (347, lv, st, w) = rn 312 (348, lv, .inl (1) :: st, w) := q_iconst (jd_of jb_312 dL_law_347)
theorem p312_348 (lv : jmL) (st : List jmV) (w : jmW) (x y : Int) : rn 312 (348, lv, .inl y :: .inl x :: st, w) = rn 312 (349, lv, .inl (x + y) :: st, w) := q_iadd (jd_of jb_312 dL_law_348)
theorem p312_349 (lv : jmL) (st : List jmV) (w : jmW) (a : Nat) (j : Int) : rn 312 (349, lv, .inl j :: jvr a :: st, w) = jq_gr (mS w a) 0 j 312 350 lv (.inl (mI w a (jix j)) :: st) (w) := q_iald (jd_of jb_312 dL_law_349)
theorem p312_350 (lv : jmL) (st : List jmV) (w : jmW) (b : Nat) (x1 : Int) : rn 312 (350, lv, .inl x1 :: jvr b :: st, w) = jq_s (mS w b) (1, 9, 0) (jq_b (decide (jwd st ≤ 8)) (jq_c 312 353 lv st (rn 175 (0, [(0, jvr b), (1, .inl x1)], [], w)))) := q_callv (as := [.inl x1]) (rest := st) (jd_of jb_312 dL_law_350) jo_312 jk_10_27 rfl rfl rfl jo_175 jf_312_175 (Nat.le_of_ble_eq_true rfl)
theorem p312_353 (lv : jmL) (st : List jmV) (w : jmW) (x y : Int) : rn 312 (353, lv, .inl y :: .inl x :: st, w) = if jw x = jw y then rn 312 (1590, lv, st, w) else rn 312 (356, lv, st, w) := q_icmp_eq (jd_of jb_312 dL_law_353) (by decide)
theorem p312_356 (lv : jmL) (st : List jmV) (w : jmW) : rn 312 (356, lv, st, w) = rn 312 (357, lv, .inl (0) :: st, w) := q_iconst (jd_of jb_312 dL_law_356)
theorem p312_357 (lv : jmL) (w : jmW) (x : Int) : rn 312 (357, lv, [.inl x], w) = jq_b (decide (x = 0 ∨ x = 1)) (some (some (.inl x), w)) := q_zreturn (jd_of jb_312 dL_law_357) jr_312
theorem p312_358 (lv : jmL) (st : List jmV) (w : jmW) : rn 312 (358, lv, st, w) = jq_lda 312 359 lv st w (jg lv 1) := q_aload_n (jd_of jb_312 dL_law_358) rfl
theorem p312_359 (lv : jmL) (st : List jmV) (w : jmW) (b : Nat) : rn 312 (359, lv, jvr b :: st, w) = jq_s (mS w b) (1, 7, 0) (jq_b (decide (jwd st ≤ 8)) (jq_c 312 362 lv st (rn 63 (0, [(0, jvr b)], [], w)))) := q_callv (as := []) (rest := st) (jd_of jb_312 dL_law_359) jo_312 jk_10_28 rfl rfl rfl jo_63 jf_312_63 (Nat.le_of_ble_eq_true rfl)
theorem p312_362 (lv : jmL) (st : List jmV) (w : jmW) : rn 312 (362, lv, st, w) = jq_lda 312 363 lv st w (jg lv 2) := q_aload_n (jd_of jb_312 dL_law_362) rfl
theorem p312_363 (lv : jmL) (st : List jmV) (w : jmW) (b : Nat) : rn 312 (363, lv, jvr b :: st, w) = jq_s (mS w b) (1, 9, 0) (jq_b (decide (jwd st ≤ 8)) (jq_c 312 366 lv st (rn 214 (0, [(0, jvr b)], [], w)))) := q_callv (as := []) (rest := st) (jd_of jb_312 dL_law_363) jo_312 jk_10_32 rfl rfl rfl jo_214 jf_312_214 (Nat.le_of_ble_eq_true rfl)
theorem p312_366 (lv : jmL) (st : List jmV) (w : jmW) (x y : Int) : rn 312 (366, lv, .inl y :: .inl x :: st, w) = if jw x = jw y then rn 312 (1590, lv, st, w) else rn 312 (369, lv, st, w) := q_icmp_eq (jd_of jb_312 dL_law_366) (by decide)
theorem p312_369 (lv : jmL) (st : List jmV) (w : jmW) : rn 312 (369, lv, st, w) = rn 312 (370, lv, .inl (0) :: st, w) := q_iconst (jd_of jb_312 dL_law_369)
theorem p312_370 (lv : jmL) (w : jmW) (x : Int) : rn 312 (370, lv, [.inl x], w) = jq_b (decide (x = 0 ∨ x = 1)) (some (some (.inl x), w)) := q_zreturn (jd_of jb_312 dL_law_370) jr_312
theorem p312_371 (lv : jmL) (st : List jmV) (w : jmW) : rn 312 (371, lv, st, w) = jq_lda 312 372 lv st w (jg lv 1) := q_aload_n (jd_of jb_312 dL_law_371) rfl
theorem p312_372 (lv : jmL) (st : List jmV) (w : jmW) (b : Nat) : rn 312 (372, lv, jvr b :: st, w) = jq_s (mS w b) (1, 7, 0) (jq_b (decide (jwd st ≤ 8)) (jq_c 312 375 lv st (rn 64 (0, [(0, jvr b)], [], w)))) := q_callv (as := []) (rest := st) (jd_of jb_312 dL_law_372) jo_312 jk_10_33 rfl rfl rfl jo_64 jf_312_64 (Nat.le_of_ble_eq_true rfl)
theorem p312_375 (lv : jmL) (st : List jmV) (w : jmW) : rn 312 (375, lv, st, w) = jq_lda 312 376 lv st w (jg lv 2) := q_aload_n (jd_of jb_312 dL_law_375) rfl
theorem p312_376 (lv : jmL) (st : List jmV) (w : jmW) (b : Nat) : rn 312 (376, lv, jvr b :: st, w) = jq_s (mS w b) (1, 9, 0) (jq_b (decide (jwd st ≤ 8)) (jq_c 312 379 lv st (rn 215 (0, [(0, jvr b)], [], w)))) := q_callv (as := []) (rest := st) (jd_of jb_312 dL_law_376) jo_312 jk_10_36 rfl rfl rfl jo_215 jf_312_215 (Nat.le_of_ble_eq_true rfl)
theorem p312_379 (lv : jmL) (st : List jmV) (w : jmW) (x y : Int) : rn 312 (379, lv, .inl y :: .inl x :: st, w) = if jw x = jw y then rn 312 (1590, lv, st, w) else rn 312 (382, lv, st, w) := q_icmp_eq (jd_of jb_312 dL_law_379) (by decide)
theorem p312_382 (lv : jmL) (st : List jmV) (w : jmW) : rn 312 (382, lv, st, w) = rn 312 (383, lv, .inl (0) :: st, w) := q_iconst (jd_of jb_312 dL_law_382)
theorem p312_383 (lv : jmL) (w : jmW) (x : Int) : rn 312 (383, lv, [.inl x], w) = jq_b (decide (x = 0 ∨ x = 1)) (some (some (.inl x), w)) := q_zreturn (jd_of jb_312 dL_law_383) jr_312
theorem p312_384 (lv : jmL) (st : List jmV) (w : jmW) : rn 312 (384, lv, st, w) = jq_lda 312 385 lv st w (jg lv 1) := q_aload_n (jd_of jb_312 dL_law_384) rfl
theorem p312_385 (lv : jmL) (st : List jmV) (w : jmW) : rn 312 (385, lv, st, w) = jq_lda 312 386 lv st w (jg lv 0) := q_aload_n (jd_of jb_312 dL_law_385) rfl
theorem p312_386 (lv : jmL) (st : List jmV) (w : jmW) : rn 312 (386, lv, st, w) = jq_ldi 312 388 lv st w (jg lv 4) := q_iload (jd_of jb_312 dL_law_386)
theorem p312_388 (lv : jmL) (st : List jmV) (w : jmW) : rn 312 (388, lv, st, w) = rn 312 (389, lv, .inl (1) :: st, w) := q_iconst (jd_of jb_312 dL_law_388)
theorem p312_389 (lv : jmL) (st : List jmV) (w : jmW) (x y : Int) : rn 312 (389, lv, .inl y :: .inl x :: st, w) = rn 312 (390, lv, .inl (x + y) :: st, w) := q_iadd (jd_of jb_312 dL_law_389)
theorem p312_390 (lv : jmL) (st : List jmV) (w : jmW) (a : Nat) (j : Int) : rn 312 (390, lv, .inl j :: jvr a :: st, w) = jq_gr (mS w a) 0 j 312 391 lv (.inl (mI w a (jix j)) :: st) (w) := q_iald (jd_of jb_312 dL_law_390)
theorem p312_391 (lv : jmL) (st : List jmV) (w : jmW) : rn 312 (391, lv, st, w) = jq_lda 312 392 lv st w (jg lv 0) := q_aload_n (jd_of jb_312 dL_law_391) rfl
theorem p312_392 (lv : jmL) (st : List jmV) (w : jmW) : rn 312 (392, lv, st, w) = jq_ldi 312 394 lv st w (jg lv 4) := q_iload (jd_of jb_312 dL_law_392)
theorem p312_394 (lv : jmL) (st : List jmV) (w : jmW) : rn 312 (394, lv, st, w) = rn 312 (395, lv, .inl (2) :: st, w) := q_iconst (jd_of jb_312 dL_law_394)
theorem p312_395 (lv : jmL) (st : List jmV) (w : jmW) (x y : Int) : rn 312 (395, lv, .inl y :: .inl x :: st, w) = rn 312 (396, lv, .inl (x + y) :: st, w) := q_iadd (jd_of jb_312 dL_law_395)
theorem p312_396 (lv : jmL) (st : List jmV) (w : jmW) (a : Nat) (j : Int) : rn 312 (396, lv, .inl j :: jvr a :: st, w) = jq_gr (mS w a) 0 j 312 397 lv (.inl (mI w a (jix j)) :: st) (w) := q_iald (jd_of jb_312 dL_law_396)
theorem p312_397 (lv : jmL) (st : List jmV) (w : jmW) (b : Nat) (x1 : Int) (x2 : Int) : rn 312 (397, lv, .inl x2 :: .inl x1 :: jvr b :: st, w) = jq_s (mS w b) (1, 7, 0) (jq_b (decide (jwd st ≤ 8)) (jq_c 312 400 lv st (rn 65 (0, [(0, jvr b), (1, .inl x1), (2, .inl x2)], [], w)))) := q_callv (as := [.inl x1, .inl x2]) (rest := st) (jd_of jb_312 dL_law_397) jo_312 jk_10_37 rfl rfl rfl jo_65 jf_312_65 (Nat.le_of_ble_eq_true rfl)
theorem p312_400 (lv : jmL) (st : List jmV) (w : jmW) : rn 312 (400, lv, st, w) = jq_lda 312 401 lv st w (jg lv 2) := q_aload_n (jd_of jb_312 dL_law_400) rfl
theorem p312_401 (lv : jmL) (st : List jmV) (w : jmW) : rn 312 (401, lv, st, w) = jq_lda 312 402 lv st w (jg lv 0) := q_aload_n (jd_of jb_312 dL_law_401) rfl
theorem p312_402 (lv : jmL) (st : List jmV) (w : jmW) : rn 312 (402, lv, st, w) = jq_ldi 312 404 lv st w (jg lv 4) := q_iload (jd_of jb_312 dL_law_402)
theorem p312_404 (lv : jmL) (st : List jmV) (w : jmW) : rn 312 (404, lv, st, w) = rn 312 (405, lv, .inl (1) :: st, w) := q_iconst (jd_of jb_312 dL_law_404)
theorem p312_405 (lv : jmL) (st : List jmV) (w : jmW) (x y : Int) : rn 312 (405, lv, .inl y :: .inl x :: st, w) = rn 312 (406, lv, .inl (x + y) :: st, w) := q_iadd (jd_of jb_312 dL_law_405)
theorem p312_406 (lv : jmL) (st : List jmV) (w : jmW) (a : Nat) (j : Int) : rn 312 (406, lv, .inl j :: jvr a :: st, w) = jq_gr (mS w a) 0 j 312 407 lv (.inl (mI w a (jix j)) :: st) (w) := q_iald (jd_of jb_312 dL_law_406)
theorem p312_407 (lv : jmL) (st : List jmV) (w : jmW) : rn 312 (407, lv, st, w) = jq_lda 312 408 lv st w (jg lv 0) := q_aload_n (jd_of jb_312 dL_law_407) rfl
theorem p312_408 (lv : jmL) (st : List jmV) (w : jmW) : rn 312 (408, lv, st, w) = jq_ldi 312 410 lv st w (jg lv 4) := q_iload (jd_of jb_312 dL_law_408)
theorem p312_410 (lv : jmL) (st : List jmV) (w : jmW) : rn 312 (410, lv, st, w) = rn 312 (411, lv, .inl (2) :: st, w) := q_iconst (jd_of jb_312 dL_law_410)
theorem p312_411 (lv : jmL) (st : List jmV) (w : jmW) (x y : Int) : rn 312 (411, lv, .inl y :: .inl x :: st, w) = rn 312 (412, lv, .inl (x + y) :: st, w) := q_iadd (jd_of jb_312 dL_law_411)
theorem p312_412 (lv : jmL) (st : List jmV) (w : jmW) (a : Nat) (j : Int) : rn 312 (412, lv, .inl j :: jvr a :: st, w) = jq_gr (mS w a) 0 j 312 413 lv (.inl (mI w a (jix j)) :: st) (w) := q_iald (jd_of jb_312 dL_law_412)
theorem p312_413 (lv : jmL) (st : List jmV) (w : jmW) (b : Nat) (x1 : Int) (x2 : Int) : rn 312 (413, lv, .inl x2 :: .inl x1 :: jvr b :: st, w) = jq_s (mS w b) (1, 9, 0) (jq_b (decide (jwd st ≤ 8)) (jq_c 312 416 lv st (rn 216 (0, [(0, jvr b), (1, .inl x1), (2, .inl x2)], [], w)))) := q_callv (as := [.inl x1, .inl x2]) (rest := st) (jd_of jb_312 dL_law_413) jo_312 jk_10_41 rfl rfl rfl jo_216 jf_312_216 (Nat.le_of_ble_eq_true rfl)
theorem p312_416 (lv : jmL) (st : List jmV) (w : jmW) (x y : Int) : rn 312 (416, lv, .inl y :: .inl x :: st, w) = if jw x = jw y then rn 312 (1590, lv, st, w) else rn 312 (419, lv, st, w) := q_icmp_eq (jd_of jb_312 dL_law_416) (by decide)
theorem p312_419 (lv : jmL) (st : List jmV) (w : jmW) : rn 312 (419, lv, st, w) = rn 312 (420, lv, .inl (0) :: st, w) := q_iconst (jd_of jb_312 dL_law_419)
theorem p312_420 (lv : jmL) (w : jmW) (x : Int) : rn 312 (420, lv, [.inl x], w) = jq_b (decide (x = 0 ∨ x = 1)) (some (some (.inl x), w)) := q_zreturn (jd_of jb_312 dL_law_420) jr_312
theorem p312_421 (lv : jmL) (st : List jmV) (w : jmW) : rn 312 (421, lv, st, w) = jq_lda 312 422 lv st w (jg lv 1) := q_aload_n (jd_of jb_312 dL_law_421) rfl
theorem p312_422 (lv : jmL) (st : List jmV) (w : jmW) (b : Nat) : rn 312 (422, lv, jvr b :: st, w) = jq_s (mS w b) (1, 7, 0) (jq_b (decide (jwd st ≤ 8)) (jq_c 312 425 lv st (rn 67 (0, [(0, jvr b)], [], w)))) := q_callv (as := []) (rest := st) (jd_of jb_312 dL_law_422) jo_312 jk_10_42 rfl rfl rfl jo_67 jf_312_67 (Nat.le_of_ble_eq_true rfl)
theorem p312_425 (lv : jmL) (st : List jmV) (w : jmW) : rn 312 (425, lv, st, w) = jq_lda 312 426 lv st w (jg lv 2) := q_aload_n (jd_of jb_312 dL_law_425) rfl
theorem p312_426 (lv : jmL) (st : List jmV) (w : jmW) (b : Nat) : rn 312 (426, lv, jvr b :: st, w) = jq_s (mS w b) (1, 9, 0) (jq_b (decide (jwd st ≤ 8)) (jq_c 312 429 lv st (rn 218 (0, [(0, jvr b)], [], w)))) := q_callv (as := []) (rest := st) (jd_of jb_312 dL_law_426) jo_312 jk_10_45 rfl rfl rfl jo_218 jf_312_218 (Nat.le_of_ble_eq_true rfl)
theorem p312_429 (lv : jmL) (st : List jmV) (w : jmW) (x y : Int) : rn 312 (429, lv, .inl y :: .inl x :: st, w) = if jw x = jw y then rn 312 (1590, lv, st, w) else rn 312 (432, lv, st, w) := q_icmp_eq (jd_of jb_312 dL_law_429) (by decide)
theorem p312_432 (lv : jmL) (st : List jmV) (w : jmW) : rn 312 (432, lv, st, w) = rn 312 (433, lv, .inl (0) :: st, w) := q_iconst (jd_of jb_312 dL_law_432)
theorem p312_433 (lv : jmL) (w : jmW) (x : Int) : rn 312 (433, lv, [.inl x], w) = jq_b (decide (x = 0 ∨ x = 1)) (some (some (.inl x), w)) := q_zreturn (jd_of jb_312 dL_law_433) jr_312
theorem p312_434 (lv : jmL) (st : List jmV) (w : jmW) : rn 312 (434, lv, st, w) = jq_lda 312 435 lv st w (jg lv 1) := q_aload_n (jd_of jb_312 dL_law_434) rfl
theorem p312_435 (lv : jmL) (st : List jmV) (w : jmW) : rn 312 (435, lv, st, w) = jq_lda 312 436 lv st w (jg lv 0) := q_aload_n (jd_of jb_312 dL_law_435) rfl
theorem p312_436 (lv : jmL) (st : List jmV) (w : jmW) : rn 312 (436, lv, st, w) = jq_ldi 312 438 lv st w (jg lv 4) := q_iload (jd_of jb_312 dL_law_436)
theorem p312_438 (lv : jmL) (st : List jmV) (w : jmW) : rn 312 (438, lv, st, w) = rn 312 (439, lv, .inl (1) :: st, w) := q_iconst (jd_of jb_312 dL_law_438)
theorem p312_439 (lv : jmL) (st : List jmV) (w : jmW) (x y : Int) : rn 312 (439, lv, .inl y :: .inl x :: st, w) = rn 312 (440, lv, .inl (x + y) :: st, w) := q_iadd (jd_of jb_312 dL_law_439)
theorem p312_440 (lv : jmL) (st : List jmV) (w : jmW) (a : Nat) (j : Int) : rn 312 (440, lv, .inl j :: jvr a :: st, w) = jq_gr (mS w a) 0 j 312 441 lv (.inl (mI w a (jix j)) :: st) (w) := q_iald (jd_of jb_312 dL_law_440)
theorem p312_441 (lv : jmL) (st : List jmV) (w : jmW) : rn 312 (441, lv, st, w) = jq_lda 312 442 lv st w (jg lv 0) := q_aload_n (jd_of jb_312 dL_law_441) rfl
theorem p312_442 (lv : jmL) (st : List jmV) (w : jmW) : rn 312 (442, lv, st, w) = jq_ldi 312 444 lv st w (jg lv 4) := q_iload (jd_of jb_312 dL_law_442)
theorem p312_444 (lv : jmL) (st : List jmV) (w : jmW) : rn 312 (444, lv, st, w) = rn 312 (445, lv, .inl (2) :: st, w) := q_iconst (jd_of jb_312 dL_law_444)
theorem p312_445 (lv : jmL) (st : List jmV) (w : jmW) (x y : Int) : rn 312 (445, lv, .inl y :: .inl x :: st, w) = rn 312 (446, lv, .inl (x + y) :: st, w) := q_iadd (jd_of jb_312 dL_law_445)
theorem p312_446 (lv : jmL) (st : List jmV) (w : jmW) (a : Nat) (j : Int) : rn 312 (446, lv, .inl j :: jvr a :: st, w) = jq_gr (mS w a) 0 j 312 447 lv (.inl (mI w a (jix j)) :: st) (w) := q_iald (jd_of jb_312 dL_law_446)
theorem p312_447 (lv : jmL) (st : List jmV) (w : jmW) (b : Nat) (x1 : Int) (x2 : Int) : rn 312 (447, lv, .inl x2 :: .inl x1 :: jvr b :: st, w) = jq_s (mS w b) (1, 7, 0) (jq_b (decide (jwd st ≤ 8)) (jq_c 312 450 lv st (rn 68 (0, [(0, jvr b), (1, .inl x1), (2, .inl x2)], [], w)))) := q_callv (as := [.inl x1, .inl x2]) (rest := st) (jd_of jb_312 dL_law_447) jo_312 jk_10_46 rfl rfl rfl jo_68 jf_312_68 (Nat.le_of_ble_eq_true rfl)
theorem p312_450 (lv : jmL) (st : List jmV) (w : jmW) : rn 312 (450, lv, st, w) = jq_lda 312 451 lv st w (jg lv 2) := q_aload_n (jd_of jb_312 dL_law_450) rfl
theorem p312_451 (lv : jmL) (st : List jmV) (w : jmW) : rn 312 (451, lv, st, w) = jq_lda 312 452 lv st w (jg lv 0) := q_aload_n (jd_of jb_312 dL_law_451) rfl
theorem p312_452 (lv : jmL) (st : List jmV) (w : jmW) : rn 312 (452, lv, st, w) = jq_ldi 312 454 lv st w (jg lv 4) := q_iload (jd_of jb_312 dL_law_452)
theorem p312_454 (lv : jmL) (st : List jmV) (w : jmW) : rn 312 (454, lv, st, w) = rn 312 (455, lv, .inl (1) :: st, w) := q_iconst (jd_of jb_312 dL_law_454)
theorem p312_455 (lv : jmL) (st : List jmV) (w : jmW) (x y : Int) : rn 312 (455, lv, .inl y :: .inl x :: st, w) = rn 312 (456, lv, .inl (x + y) :: st, w) := q_iadd (jd_of jb_312 dL_law_455)
theorem p312_456 (lv : jmL) (st : List jmV) (w : jmW) (a : Nat) (j : Int) : rn 312 (456, lv, .inl j :: jvr a :: st, w) = jq_gr (mS w a) 0 j 312 457 lv (.inl (mI w a (jix j)) :: st) (w) := q_iald (jd_of jb_312 dL_law_456)
theorem p312_457 (lv : jmL) (st : List jmV) (w : jmW) : rn 312 (457, lv, st, w) = jq_lda 312 458 lv st w (jg lv 0) := q_aload_n (jd_of jb_312 dL_law_457) rfl
theorem p312_458 (lv : jmL) (st : List jmV) (w : jmW) : rn 312 (458, lv, st, w) = jq_ldi 312 460 lv st w (jg lv 4) := q_iload (jd_of jb_312 dL_law_458)
theorem p312_460 (lv : jmL) (st : List jmV) (w : jmW) : rn 312 (460, lv, st, w) = rn 312 (461, lv, .inl (2) :: st, w) := q_iconst (jd_of jb_312 dL_law_460)
theorem p312_461 (lv : jmL) (st : List jmV) (w : jmW) (x y : Int) : rn 312 (461, lv, .inl y :: .inl x :: st, w) = rn 312 (462, lv, .inl (x + y) :: st, w) := q_iadd (jd_of jb_312 dL_law_461)
theorem p312_462 (lv : jmL) (st : List jmV) (w : jmW) (a : Nat) (j : Int) : rn 312 (462, lv, .inl j :: jvr a :: st, w) = jq_gr (mS w a) 0 j 312 463 lv (.inl (mI w a (jix j)) :: st) (w) := q_iald (jd_of jb_312 dL_law_462)
theorem p312_463 (lv : jmL) (st : List jmV) (w : jmW) (b : Nat) (x1 : Int) (x2 : Int) : rn 312 (463, lv, .inl x2 :: .inl x1 :: jvr b :: st, w) = jq_s (mS w b) (1, 9, 0) (jq_b (decide (jwd st ≤ 8)) (jq_c 312 466 lv st (rn 219 (0, [(0, jvr b), (1, .inl x1), (2, .inl x2)], [], w)))) := q_callv (as := [.inl x1, .inl x2]) (rest := st) (jd_of jb_312 dL_law_463) jo_312 jk_10_49 rfl rfl rfl jo_219 jf_312_219 (Nat.le_of_ble_eq_true rfl)
theorem p312_466 (lv : jmL) (st : List jmV) (w : jmW) (x y : Int) : rn 312 (466, lv, .inl y :: .inl x :: st, w) = if jw x = jw y then rn 312 (1590, lv, st, w) else rn 312 (469, lv, st, w) := q_icmp_eq (jd_of jb_312 dL_law_466) (by decide)
theorem p312_469 (lv : jmL) (st : List jmV) (w : jmW) : rn 312 (469, lv, st, w) = rn 312 (470, lv, .inl (0) :: st, w) := q_iconst (jd_of jb_312 dL_law_469)
theorem p312_470 (lv : jmL) (w : jmW) (x : Int) : rn 312 (470, lv, [.inl x], w) = jq_b (decide (x = 0 ∨ x = 1)) (some (some (.inl x), w)) := q_zreturn (jd_of jb_312 dL_law_470) jr_312
theorem p312_471 (lv : jmL) (st : List jmV) (w : jmW) : rn 312 (471, lv, st, w) = jq_lda 312 472 lv st w (jg lv 1) := q_aload_n (jd_of jb_312 dL_law_471) rfl
theorem p312_472 (lv : jmL) (st : List jmV) (w : jmW) : rn 312 (472, lv, st, w) = jq_lda 312 473 lv st w (jg lv 0) := q_aload_n (jd_of jb_312 dL_law_472) rfl
theorem p312_473 (lv : jmL) (st : List jmV) (w : jmW) : rn 312 (473, lv, st, w) = jq_ldi 312 475 lv st w (jg lv 4) := q_iload (jd_of jb_312 dL_law_473)
theorem p312_475 (lv : jmL) (st : List jmV) (w : jmW) : rn 312 (475, lv, st, w) = rn 312 (476, lv, .inl (1) :: st, w) := q_iconst (jd_of jb_312 dL_law_475)
theorem p312_476 (lv : jmL) (st : List jmV) (w : jmW) (x y : Int) : rn 312 (476, lv, .inl y :: .inl x :: st, w) = rn 312 (477, lv, .inl (x + y) :: st, w) := q_iadd (jd_of jb_312 dL_law_476)
theorem p312_477 (lv : jmL) (st : List jmV) (w : jmW) (a : Nat) (j : Int) : rn 312 (477, lv, .inl j :: jvr a :: st, w) = jq_gr (mS w a) 0 j 312 478 lv (.inl (mI w a (jix j)) :: st) (w) := q_iald (jd_of jb_312 dL_law_477)
theorem p312_478 (lv : jmL) (st : List jmV) (w : jmW) : rn 312 (478, lv, st, w) = jq_lda 312 479 lv st w (jg lv 0) := q_aload_n (jd_of jb_312 dL_law_478) rfl
theorem p312_479 (lv : jmL) (st : List jmV) (w : jmW) : rn 312 (479, lv, st, w) = jq_ldi 312 481 lv st w (jg lv 4) := q_iload (jd_of jb_312 dL_law_479)
theorem p312_481 (lv : jmL) (st : List jmV) (w : jmW) : rn 312 (481, lv, st, w) = rn 312 (482, lv, .inl (2) :: st, w) := q_iconst (jd_of jb_312 dL_law_481)
theorem p312_482 (lv : jmL) (st : List jmV) (w : jmW) (x y : Int) : rn 312 (482, lv, .inl y :: .inl x :: st, w) = rn 312 (483, lv, .inl (x + y) :: st, w) := q_iadd (jd_of jb_312 dL_law_482)
theorem p312_483 (lv : jmL) (st : List jmV) (w : jmW) (a : Nat) (j : Int) : rn 312 (483, lv, .inl j :: jvr a :: st, w) = jq_gr (mS w a) 0 j 312 484 lv (.inl (mI w a (jix j)) :: st) (w) := q_iald (jd_of jb_312 dL_law_483)
theorem p312_484 (lv : jmL) (st : List jmV) (w : jmW) (b : Nat) (x1 : Int) (x2 : Int) : rn 312 (484, lv, .inl x2 :: .inl x1 :: jvr b :: st, w) = jq_s (mS w b) (1, 7, 0) (jq_b (decide (jwd st ≤ 8)) (jq_c 312 487 lv st (rn 72 (0, [(0, jvr b), (1, .inl x1), (2, .inl x2)], [], w)))) := q_callv (as := [.inl x1, .inl x2]) (rest := st) (jd_of jb_312 dL_law_484) jo_312 jk_10_50 rfl rfl rfl jo_72 jf_312_72 (Nat.le_of_ble_eq_true rfl)
theorem p312_487 (lv : jmL) (st : List jmV) (w : jmW) : rn 312 (487, lv, st, w) = jq_lda 312 488 lv st w (jg lv 2) := q_aload_n (jd_of jb_312 dL_law_487) rfl
theorem p312_488 (lv : jmL) (st : List jmV) (w : jmW) : rn 312 (488, lv, st, w) = jq_lda 312 489 lv st w (jg lv 0) := q_aload_n (jd_of jb_312 dL_law_488) rfl
theorem p312_489 (lv : jmL) (st : List jmV) (w : jmW) : rn 312 (489, lv, st, w) = jq_ldi 312 491 lv st w (jg lv 4) := q_iload (jd_of jb_312 dL_law_489)
theorem p312_491 (lv : jmL) (st : List jmV) (w : jmW) : rn 312 (491, lv, st, w) = rn 312 (492, lv, .inl (1) :: st, w) := q_iconst (jd_of jb_312 dL_law_491)
theorem p312_492 (lv : jmL) (st : List jmV) (w : jmW) (x y : Int) : rn 312 (492, lv, .inl y :: .inl x :: st, w) = rn 312 (493, lv, .inl (x + y) :: st, w) := q_iadd (jd_of jb_312 dL_law_492)
theorem p312_493 (lv : jmL) (st : List jmV) (w : jmW) (a : Nat) (j : Int) : rn 312 (493, lv, .inl j :: jvr a :: st, w) = jq_gr (mS w a) 0 j 312 494 lv (.inl (mI w a (jix j)) :: st) (w) := q_iald (jd_of jb_312 dL_law_493)
theorem p312_494 (lv : jmL) (st : List jmV) (w : jmW) : rn 312 (494, lv, st, w) = jq_lda 312 495 lv st w (jg lv 0) := q_aload_n (jd_of jb_312 dL_law_494) rfl
theorem p312_495 (lv : jmL) (st : List jmV) (w : jmW) : rn 312 (495, lv, st, w) = jq_ldi 312 497 lv st w (jg lv 4) := q_iload (jd_of jb_312 dL_law_495)
theorem p312_497 (lv : jmL) (st : List jmV) (w : jmW) : rn 312 (497, lv, st, w) = rn 312 (498, lv, .inl (2) :: st, w) := q_iconst (jd_of jb_312 dL_law_497)
theorem p312_498 (lv : jmL) (st : List jmV) (w : jmW) (x y : Int) : rn 312 (498, lv, .inl y :: .inl x :: st, w) = rn 312 (499, lv, .inl (x + y) :: st, w) := q_iadd (jd_of jb_312 dL_law_498)
theorem p312_499 (lv : jmL) (st : List jmV) (w : jmW) (a : Nat) (j : Int) : rn 312 (499, lv, .inl j :: jvr a :: st, w) = jq_gr (mS w a) 0 j 312 500 lv (.inl (mI w a (jix j)) :: st) (w) := q_iald (jd_of jb_312 dL_law_499)
theorem p312_500 (lv : jmL) (st : List jmV) (w : jmW) (b : Nat) (x1 : Int) (x2 : Int) : rn 312 (500, lv, .inl x2 :: .inl x1 :: jvr b :: st, w) = jq_s (mS w b) (1, 9, 0) (jq_b (decide (jwd st ≤ 8)) (jq_c 312 503 lv st (rn 223 (0, [(0, jvr b), (1, .inl x1), (2, .inl x2)], [], w)))) := q_callv (as := [.inl x1, .inl x2]) (rest := st) (jd_of jb_312 dL_law_500) jo_312 jk_10_53 rfl rfl rfl jo_223 jf_312_223 (Nat.le_of_ble_eq_true rfl)
theorem p312_503 (lv : jmL) (st : List jmV) (w : jmW) (x y : Int) : rn 312 (503, lv, .inl y :: .inl x :: st, w) = if jw x = jw y then rn 312 (1590, lv, st, w) else rn 312 (506, lv, st, w) := q_icmp_eq (jd_of jb_312 dL_law_503) (by decide)
theorem p312_506 (lv : jmL) (st : List jmV) (w : jmW) : rn 312 (506, lv, st, w) = rn 312 (507, lv, .inl (0) :: st, w) := q_iconst (jd_of jb_312 dL_law_506)
theorem p312_507 (lv : jmL) (w : jmW) (x : Int) : rn 312 (507, lv, [.inl x], w) = jq_b (decide (x = 0 ∨ x = 1)) (some (some (.inl x), w)) := q_zreturn (jd_of jb_312 dL_law_507) jr_312
theorem p312_508 (lv : jmL) (st : List jmV) (w : jmW) : rn 312 (508, lv, st, w) = jq_lda 312 509 lv st w (jg lv 1) := q_aload_n (jd_of jb_312 dL_law_508) rfl
theorem p312_509 (lv : jmL) (st : List jmV) (w : jmW) : rn 312 (509, lv, st, w) = jq_lda 312 510 lv st w (jg lv 0) := q_aload_n (jd_of jb_312 dL_law_509) rfl
theorem p312_510 (lv : jmL) (st : List jmV) (w : jmW) : rn 312 (510, lv, st, w) = jq_ldi 312 512 lv st w (jg lv 4) := q_iload (jd_of jb_312 dL_law_510)
theorem p312_512 (lv : jmL) (st : List jmV) (w : jmW) : rn 312 (512, lv, st, w) = rn 312 (513, lv, .inl (1) :: st, w) := q_iconst (jd_of jb_312 dL_law_512)
theorem p312_513 (lv : jmL) (st : List jmV) (w : jmW) (x y : Int) : rn 312 (513, lv, .inl y :: .inl x :: st, w) = rn 312 (514, lv, .inl (x + y) :: st, w) := q_iadd (jd_of jb_312 dL_law_513)
theorem p312_514 (lv : jmL) (st : List jmV) (w : jmW) (a : Nat) (j : Int) : rn 312 (514, lv, .inl j :: jvr a :: st, w) = jq_gr (mS w a) 0 j 312 515 lv (.inl (mI w a (jix j)) :: st) (w) := q_iald (jd_of jb_312 dL_law_514)
theorem p312_515 (lv : jmL) (st : List jmV) (w : jmW) (b : Nat) (x1 : Int) : rn 312 (515, lv, .inl x1 :: jvr b :: st, w) = jq_s (mS w b) (1, 7, 0) (jq_b (decide (jwd st ≤ 8)) (jq_c 312 518 lv st (rn 73 (0, [(0, jvr b), (1, .inl x1)], [], w)))) := q_callv (as := [.inl x1]) (rest := st) (jd_of jb_312 dL_law_515) jo_312 jk_10_54 rfl rfl rfl jo_73 jf_312_73 (Nat.le_of_ble_eq_true rfl)
theorem p312_518 (lv : jmL) (st : List jmV) (w : jmW) : rn 312 (518, lv, st, w) = jq_lda 312 519 lv st w (jg lv 2) := q_aload_n (jd_of jb_312 dL_law_518) rfl
theorem p312_519 (lv : jmL) (st : List jmV) (w : jmW) : rn 312 (519, lv, st, w) = jq_lda 312 520 lv st w (jg lv 0) := q_aload_n (jd_of jb_312 dL_law_519) rfl
theorem p312_520 (lv : jmL) (st : List jmV) (w : jmW) : rn 312 (520, lv, st, w) = jq_ldi 312 522 lv st w (jg lv 4) := q_iload (jd_of jb_312 dL_law_520)
theorem p312_522 (lv : jmL) (st : List jmV) (w : jmW) : rn 312 (522, lv, st, w) = rn 312 (523, lv, .inl (1) :: st, w) := q_iconst (jd_of jb_312 dL_law_522)
theorem p312_523 (lv : jmL) (st : List jmV) (w : jmW) (x y : Int) : rn 312 (523, lv, .inl y :: .inl x :: st, w) = rn 312 (524, lv, .inl (x + y) :: st, w) := q_iadd (jd_of jb_312 dL_law_523)
theorem p312_524 (lv : jmL) (st : List jmV) (w : jmW) (a : Nat) (j : Int) : rn 312 (524, lv, .inl j :: jvr a :: st, w) = jq_gr (mS w a) 0 j 312 525 lv (.inl (mI w a (jix j)) :: st) (w) := q_iald (jd_of jb_312 dL_law_524)
theorem p312_525 (lv : jmL) (st : List jmV) (w : jmW) (b : Nat) (x1 : Int) : rn 312 (525, lv, .inl x1 :: jvr b :: st, w) = jq_s (mS w b) (1, 9, 0) (jq_b (decide (jwd st ≤ 8)) (jq_c 312 528 lv st (rn 224 (0, [(0, jvr b), (1, .inl x1)], [], w)))) := q_callv (as := [.inl x1]) (rest := st) (jd_of jb_312 dL_law_525) jo_312 jk_10_57 rfl rfl rfl jo_224 jf_312_224 (Nat.le_of_ble_eq_true rfl)
theorem p312_528 (lv : jmL) (st : List jmV) (w : jmW) (x y : Int) : rn 312 (528, lv, .inl y :: .inl x :: st, w) = if jw x = jw y then rn 312 (1590, lv, st, w) else rn 312 (531, lv, st, w) := q_icmp_eq (jd_of jb_312 dL_law_528) (by decide)
theorem p312_531 (lv : jmL) (st : List jmV) (w : jmW) : rn 312 (531, lv, st, w) = rn 312 (532, lv, .inl (0) :: st, w) := q_iconst (jd_of jb_312 dL_law_531)
theorem p312_532 (lv : jmL) (w : jmW) (x : Int) : rn 312 (532, lv, [.inl x], w) = jq_b (decide (x = 0 ∨ x = 1)) (some (some (.inl x), w)) := q_zreturn (jd_of jb_312 dL_law_532) jr_312
theorem p312_533 (lv : jmL) (st : List jmV) (w : jmW) : rn 312 (533, lv, st, w) = jq_lda 312 534 lv st w (jg lv 1) := q_aload_n (jd_of jb_312 dL_law_533) rfl
theorem p312_534 (lv : jmL) (st : List jmV) (w : jmW) (b : Nat) : rn 312 (534, lv, jvr b :: st, w) = jq_s (mS w b) (1, 7, 0) (jq_b (decide (jwd st ≤ 8)) (jq_c 312 537 lv st (rn 74 (0, [(0, jvr b)], [], w)))) := q_callv (as := []) (rest := st) (jd_of jb_312 dL_law_534) jo_312 jk_10_58 rfl rfl rfl jo_74 jf_312_74 (Nat.le_of_ble_eq_true rfl)
theorem p312_537 (lv : jmL) (st : List jmV) (w : jmW) : rn 312 (537, lv, st, w) = jq_lda 312 538 lv st w (jg lv 2) := q_aload_n (jd_of jb_312 dL_law_537) rfl
theorem p312_538 (lv : jmL) (st : List jmV) (w : jmW) (b : Nat) : rn 312 (538, lv, jvr b :: st, w) = jq_s (mS w b) (1, 9, 0) (jq_b (decide (jwd st ≤ 8)) (jq_c 312 541 lv st (rn 225 (0, [(0, jvr b)], [], w)))) := q_callv (as := []) (rest := st) (jd_of jb_312 dL_law_538) jo_312 jk_10_61 rfl rfl rfl jo_225 jf_312_225 (Nat.le_of_ble_eq_true rfl)
theorem p312_541 (lv : jmL) (st : List jmV) (w : jmW) (x y : Int) : rn 312 (541, lv, .inl y :: .inl x :: st, w) = if jw x = jw y then rn 312 (1590, lv, st, w) else rn 312 (544, lv, st, w) := q_icmp_eq (jd_of jb_312 dL_law_541) (by decide)
theorem p312_544 (lv : jmL) (st : List jmV) (w : jmW) : rn 312 (544, lv, st, w) = rn 312 (545, lv, .inl (0) :: st, w) := q_iconst (jd_of jb_312 dL_law_544)
theorem p312_545 (lv : jmL) (w : jmW) (x : Int) : rn 312 (545, lv, [.inl x], w) = jq_b (decide (x = 0 ∨ x = 1)) (some (some (.inl x), w)) := q_zreturn (jd_of jb_312 dL_law_545) jr_312
theorem p312_546 (lv : jmL) (st : List jmV) (w : jmW) : rn 312 (546, lv, st, w) = jq_lda 312 547 lv st w (jg lv 1) := q_aload_n (jd_of jb_312 dL_law_546) rfl
theorem p312_547 (lv : jmL) (st : List jmV) (w : jmW) (b : Nat) : rn 312 (547, lv, jvr b :: st, w) = jq_s (mS w b) (1, 7, 0) (jq_b (decide (jwd st ≤ 8)) (jq_c 312 550 lv st (rn 75 (0, [(0, jvr b)], [], w)))) := q_callv (as := []) (rest := st) (jd_of jb_312 dL_law_547) jo_312 jk_10_62 rfl rfl rfl jo_75 jf_312_75 (Nat.le_of_ble_eq_true rfl)
theorem p312_550 (lv : jmL) (st : List jmV) (w : jmW) : rn 312 (550, lv, st, w) = jq_lda 312 551 lv st w (jg lv 2) := q_aload_n (jd_of jb_312 dL_law_550) rfl
theorem p312_551 (lv : jmL) (st : List jmV) (w : jmW) (b : Nat) : rn 312 (551, lv, jvr b :: st, w) = jq_s (mS w b) (1, 9, 0) (jq_b (decide (jwd st ≤ 8)) (jq_c 312 554 lv st (rn 226 (0, [(0, jvr b)], [], w)))) := q_callv (as := []) (rest := st) (jd_of jb_312 dL_law_551) jo_312 jk_10_65 rfl rfl rfl jo_226 jf_312_226 (Nat.le_of_ble_eq_true rfl)
theorem p312_554 (lv : jmL) (st : List jmV) (w : jmW) (x y : Int) : rn 312 (554, lv, .inl y :: .inl x :: st, w) = if jw x = jw y then rn 312 (1590, lv, st, w) else rn 312 (557, lv, st, w) := q_icmp_eq (jd_of jb_312 dL_law_554) (by decide)
theorem p312_557 (lv : jmL) (st : List jmV) (w : jmW) : rn 312 (557, lv, st, w) = rn 312 (558, lv, .inl (0) :: st, w) := q_iconst (jd_of jb_312 dL_law_557)
theorem p312_558 (lv : jmL) (w : jmW) (x : Int) : rn 312 (558, lv, [.inl x], w) = jq_b (decide (x = 0 ∨ x = 1)) (some (some (.inl x), w)) := q_zreturn (jd_of jb_312 dL_law_558) jr_312
theorem p312_559 (lv : jmL) (st : List jmV) (w : jmW) : rn 312 (559, lv, st, w) = jq_lda 312 560 lv st w (jg lv 1) := q_aload_n (jd_of jb_312 dL_law_559) rfl
theorem p312_560 (lv : jmL) (st : List jmV) (w : jmW) : rn 312 (560, lv, st, w) = jq_lda 312 561 lv st w (jg lv 0) := q_aload_n (jd_of jb_312 dL_law_560) rfl
theorem p312_561 (lv : jmL) (st : List jmV) (w : jmW) : rn 312 (561, lv, st, w) = jq_ldi 312 563 lv st w (jg lv 4) := q_iload (jd_of jb_312 dL_law_561)
theorem p312_563 (lv : jmL) (st : List jmV) (w : jmW) : rn 312 (563, lv, st, w) = rn 312 (564, lv, .inl (1) :: st, w) := q_iconst (jd_of jb_312 dL_law_563)
theorem p312_564 (lv : jmL) (st : List jmV) (w : jmW) (x y : Int) : rn 312 (564, lv, .inl y :: .inl x :: st, w) = rn 312 (565, lv, .inl (x + y) :: st, w) := q_iadd (jd_of jb_312 dL_law_564)
theorem p312_565 (lv : jmL) (st : List jmV) (w : jmW) (a : Nat) (j : Int) : rn 312 (565, lv, .inl j :: jvr a :: st, w) = jq_gr (mS w a) 0 j 312 566 lv (.inl (mI w a (jix j)) :: st) (w) := q_iald (jd_of jb_312 dL_law_565)
theorem p312_566 (lv : jmL) (st : List jmV) (w : jmW) (b : Nat) (x1 : Int) : rn 312 (566, lv, .inl x1 :: jvr b :: st, w) = jq_s (mS w b) (1, 7, 0) (jq_b (decide (jwd st ≤ 8)) (jq_c 312 569 lv st (rn 77 (0, [(0, jvr b), (1, .inl x1)], [], w)))) := q_callv (as := [.inl x1]) (rest := st) (jd_of jb_312 dL_law_566) jo_312 jk_10_66 rfl rfl rfl jo_77 jf_312_77 (Nat.le_of_ble_eq_true rfl)
theorem p312_569 (lv : jmL) (st : List jmV) (w : jmW) : rn 312 (569, lv, st, w) = jq_lda 312 570 lv st w (jg lv 2) := q_aload_n (jd_of jb_312 dL_law_569) rfl
theorem p312_570 (lv : jmL) (st : List jmV) (w : jmW) : rn 312 (570, lv, st, w) = jq_lda 312 571 lv st w (jg lv 0) := q_aload_n (jd_of jb_312 dL_law_570) rfl
theorem p312_571 (lv : jmL) (st : List jmV) (w : jmW) : rn 312 (571, lv, st, w) = jq_ldi 312 573 lv st w (jg lv 4) := q_iload (jd_of jb_312 dL_law_571)
theorem p312_573 (lv : jmL) (st : List jmV) (w : jmW) : rn 312 (573, lv, st, w) = rn 312 (574, lv, .inl (1) :: st, w) := q_iconst (jd_of jb_312 dL_law_573)
theorem p312_574 (lv : jmL) (st : List jmV) (w : jmW) (x y : Int) : rn 312 (574, lv, .inl y :: .inl x :: st, w) = rn 312 (575, lv, .inl (x + y) :: st, w) := q_iadd (jd_of jb_312 dL_law_574)
theorem p312_575 (lv : jmL) (st : List jmV) (w : jmW) (a : Nat) (j : Int) : rn 312 (575, lv, .inl j :: jvr a :: st, w) = jq_gr (mS w a) 0 j 312 576 lv (.inl (mI w a (jix j)) :: st) (w) := q_iald (jd_of jb_312 dL_law_575)
theorem p312_576 (lv : jmL) (st : List jmV) (w : jmW) (b : Nat) (x1 : Int) : rn 312 (576, lv, .inl x1 :: jvr b :: st, w) = jq_s (mS w b) (1, 9, 0) (jq_b (decide (jwd st ≤ 8)) (jq_c 312 579 lv st (rn 229 (0, [(0, jvr b), (1, .inl x1)], [], w)))) := q_callv (as := [.inl x1]) (rest := st) (jd_of jb_312 dL_law_576) jo_312 jk_10_69 rfl rfl rfl jo_229 jf_312_229 (Nat.le_of_ble_eq_true rfl)
theorem p312_579 (lv : jmL) (st : List jmV) (w : jmW) (x y : Int) : rn 312 (579, lv, .inl y :: .inl x :: st, w) = if jw x = jw y then rn 312 (1590, lv, st, w) else rn 312 (582, lv, st, w) := q_icmp_eq (jd_of jb_312 dL_law_579) (by decide)
theorem p312_582 (lv : jmL) (st : List jmV) (w : jmW) : rn 312 (582, lv, st, w) = rn 312 (583, lv, .inl (0) :: st, w) := q_iconst (jd_of jb_312 dL_law_582)
theorem p312_583 (lv : jmL) (w : jmW) (x : Int) : rn 312 (583, lv, [.inl x], w) = jq_b (decide (x = 0 ∨ x = 1)) (some (some (.inl x), w)) := q_zreturn (jd_of jb_312 dL_law_583) jr_312
theorem p312_584 (lv : jmL) (st : List jmV) (w : jmW) : rn 312 (584, lv, st, w) = jq_lda 312 585 lv st w (jg lv 1) := q_aload_n (jd_of jb_312 dL_law_584) rfl
theorem p312_585 (lv : jmL) (st : List jmV) (w : jmW) (b : Nat) : rn 312 (585, lv, jvr b :: st, w) = jq_s (mS w b) (1, 7, 0) (jq_b (decide (jwd st ≤ 8)) (jq_c 312 588 lv st (rn 79 (0, [(0, jvr b)], [], w)))) := q_callv (as := []) (rest := st) (jd_of jb_312 dL_law_585) jo_312 jk_10_70 rfl rfl rfl jo_79 jf_312_79 (Nat.le_of_ble_eq_true rfl)
theorem p312_588 (lv : jmL) (st : List jmV) (w : jmW) : rn 312 (588, lv, st, w) = jq_lda 312 589 lv st w (jg lv 2) := q_aload_n (jd_of jb_312 dL_law_588) rfl
theorem p312_589 (lv : jmL) (st : List jmV) (w : jmW) (b : Nat) : rn 312 (589, lv, jvr b :: st, w) = jq_s (mS w b) (1, 9, 0) (jq_b (decide (jwd st ≤ 8)) (jq_c 312 592 lv st (rn 231 (0, [(0, jvr b)], [], w)))) := q_callv (as := []) (rest := st) (jd_of jb_312 dL_law_589) jo_312 jk_10_73 rfl rfl rfl jo_231 jf_312_231 (Nat.le_of_ble_eq_true rfl)
theorem p312_592 (lv : jmL) (st : List jmV) (w : jmW) (x y : Int) : rn 312 (592, lv, .inl y :: .inl x :: st, w) = if jw x = jw y then rn 312 (1590, lv, st, w) else rn 312 (595, lv, st, w) := q_icmp_eq (jd_of jb_312 dL_law_592) (by decide)
theorem p312_595 (lv : jmL) (st : List jmV) (w : jmW) : rn 312 (595, lv, st, w) = rn 312 (596, lv, .inl (0) :: st, w) := q_iconst (jd_of jb_312 dL_law_595)
theorem p312_596 (lv : jmL) (w : jmW) (x : Int) : rn 312 (596, lv, [.inl x], w) = jq_b (decide (x = 0 ∨ x = 1)) (some (some (.inl x), w)) := q_zreturn (jd_of jb_312 dL_law_596) jr_312
theorem p312_597 (lv : jmL) (st : List jmV) (w : jmW) : rn 312 (597, lv, st, w) = jq_lda 312 598 lv st w (jg lv 1) := q_aload_n (jd_of jb_312 dL_law_597) rfl
theorem p312_598 (lv : jmL) (st : List jmV) (w : jmW) : rn 312 (598, lv, st, w) = jq_lda 312 599 lv st w (jg lv 0) := q_aload_n (jd_of jb_312 dL_law_598) rfl
theorem p312_599 (lv : jmL) (st : List jmV) (w : jmW) : rn 312 (599, lv, st, w) = jq_ldi 312 601 lv st w (jg lv 4) := q_iload (jd_of jb_312 dL_law_599)
theorem p312_601 (lv : jmL) (st : List jmV) (w : jmW) : rn 312 (601, lv, st, w) = rn 312 (602, lv, .inl (1) :: st, w) := q_iconst (jd_of jb_312 dL_law_601)
theorem p312_602 (lv : jmL) (st : List jmV) (w : jmW) (x y : Int) : rn 312 (602, lv, .inl y :: .inl x :: st, w) = rn 312 (603, lv, .inl (x + y) :: st, w) := q_iadd (jd_of jb_312 dL_law_602)
theorem p312_603 (lv : jmL) (st : List jmV) (w : jmW) (a : Nat) (j : Int) : rn 312 (603, lv, .inl j :: jvr a :: st, w) = jq_gr (mS w a) 0 j 312 604 lv (.inl (mI w a (jix j)) :: st) (w) := q_iald (jd_of jb_312 dL_law_603)
theorem p312_604 (lv : jmL) (st : List jmV) (w : jmW) (b : Nat) (x1 : Int) : rn 312 (604, lv, .inl x1 :: jvr b :: st, w) = jq_s (mS w b) (1, 7, 0) (jq_b (decide (jwd st ≤ 8)) (jq_c 312 607 lv st (rn 80 (0, [(0, jvr b), (1, .inl x1)], [], w)))) := q_callv (as := [.inl x1]) (rest := st) (jd_of jb_312 dL_law_604) jo_312 jk_10_74 rfl rfl rfl jo_80 jf_312_80 (Nat.le_of_ble_eq_true rfl)
theorem p312_607 (lv : jmL) (st : List jmV) (w : jmW) : rn 312 (607, lv, st, w) = jq_lda 312 608 lv st w (jg lv 2) := q_aload_n (jd_of jb_312 dL_law_607) rfl
theorem p312_608 (lv : jmL) (st : List jmV) (w : jmW) : rn 312 (608, lv, st, w) = jq_lda 312 609 lv st w (jg lv 0) := q_aload_n (jd_of jb_312 dL_law_608) rfl
theorem p312_609 (lv : jmL) (st : List jmV) (w : jmW) : rn 312 (609, lv, st, w) = jq_ldi 312 611 lv st w (jg lv 4) := q_iload (jd_of jb_312 dL_law_609)
theorem p312_611 (lv : jmL) (st : List jmV) (w : jmW) : rn 312 (611, lv, st, w) = rn 312 (612, lv, .inl (1) :: st, w) := q_iconst (jd_of jb_312 dL_law_611)
theorem p312_612 (lv : jmL) (st : List jmV) (w : jmW) (x y : Int) : rn 312 (612, lv, .inl y :: .inl x :: st, w) = rn 312 (613, lv, .inl (x + y) :: st, w) := q_iadd (jd_of jb_312 dL_law_612)
theorem p312_613 (lv : jmL) (st : List jmV) (w : jmW) (a : Nat) (j : Int) : rn 312 (613, lv, .inl j :: jvr a :: st, w) = jq_gr (mS w a) 0 j 312 614 lv (.inl (mI w a (jix j)) :: st) (w) := q_iald (jd_of jb_312 dL_law_613)
theorem p312_614 (lv : jmL) (st : List jmV) (w : jmW) (b : Nat) (x1 : Int) : rn 312 (614, lv, .inl x1 :: jvr b :: st, w) = jq_s (mS w b) (1, 9, 0) (jq_b (decide (jwd st ≤ 8)) (jq_c 312 617 lv st (rn 233 (0, [(0, jvr b), (1, .inl x1)], [], w)))) := q_callv (as := [.inl x1]) (rest := st) (jd_of jb_312 dL_law_614) jo_312 jk_10_77 rfl rfl rfl jo_233 jf_312_233 (Nat.le_of_ble_eq_true rfl)
theorem p312_617 (lv : jmL) (st : List jmV) (w : jmW) (x y : Int) : rn 312 (617, lv, .inl y :: .inl x :: st, w) = if jw x = jw y then rn 312 (1590, lv, st, w) else rn 312 (620, lv, st, w) := q_icmp_eq (jd_of jb_312 dL_law_617) (by decide)
theorem p312_620 (lv : jmL) (st : List jmV) (w : jmW) : rn 312 (620, lv, st, w) = rn 312 (621, lv, .inl (0) :: st, w) := q_iconst (jd_of jb_312 dL_law_620)
theorem p312_621 (lv : jmL) (w : jmW) (x : Int) : rn 312 (621, lv, [.inl x], w) = jq_b (decide (x = 0 ∨ x = 1)) (some (some (.inl x), w)) := q_zreturn (jd_of jb_312 dL_law_621) jr_312
theorem p312_622 (lv : jmL) (st : List jmV) (w : jmW) : rn 312 (622, lv, st, w) = jq_lda 312 623 lv st w (jg lv 1) := q_aload_n (jd_of jb_312 dL_law_622) rfl
theorem p312_623 (lv : jmL) (st : List jmV) (w : jmW) : rn 312 (623, lv, st, w) = jq_lda 312 624 lv st w (jg lv 0) := q_aload_n (jd_of jb_312 dL_law_623) rfl
theorem p312_624 (lv : jmL) (st : List jmV) (w : jmW) : rn 312 (624, lv, st, w) = jq_ldi 312 626 lv st w (jg lv 4) := q_iload (jd_of jb_312 dL_law_624)
theorem p312_626 (lv : jmL) (st : List jmV) (w : jmW) : rn 312 (626, lv, st, w) = rn 312 (627, lv, .inl (1) :: st, w) := q_iconst (jd_of jb_312 dL_law_626)
theorem p312_627 (lv : jmL) (st : List jmV) (w : jmW) (x y : Int) : rn 312 (627, lv, .inl y :: .inl x :: st, w) = rn 312 (628, lv, .inl (x + y) :: st, w) := q_iadd (jd_of jb_312 dL_law_627)
theorem p312_628 (lv : jmL) (st : List jmV) (w : jmW) (a : Nat) (j : Int) : rn 312 (628, lv, .inl j :: jvr a :: st, w) = jq_gr (mS w a) 0 j 312 629 lv (.inl (mI w a (jix j)) :: st) (w) := q_iald (jd_of jb_312 dL_law_628)
theorem p312_629 (lv : jmL) (st : List jmV) (w : jmW) : rn 312 (629, lv, st, w) = jq_lda 312 630 lv st w (jg lv 0) := q_aload_n (jd_of jb_312 dL_law_629) rfl
theorem p312_630 (lv : jmL) (st : List jmV) (w : jmW) : rn 312 (630, lv, st, w) = jq_ldi 312 632 lv st w (jg lv 4) := q_iload (jd_of jb_312 dL_law_630)
theorem p312_632 (lv : jmL) (st : List jmV) (w : jmW) : rn 312 (632, lv, st, w) = rn 312 (633, lv, .inl (2) :: st, w) := q_iconst (jd_of jb_312 dL_law_632)
theorem p312_633 (lv : jmL) (st : List jmV) (w : jmW) (x y : Int) : rn 312 (633, lv, .inl y :: .inl x :: st, w) = rn 312 (634, lv, .inl (x + y) :: st, w) := q_iadd (jd_of jb_312 dL_law_633)
theorem p312_634 (lv : jmL) (st : List jmV) (w : jmW) (a : Nat) (j : Int) : rn 312 (634, lv, .inl j :: jvr a :: st, w) = jq_gr (mS w a) 0 j 312 635 lv (.inl (mI w a (jix j)) :: st) (w) := q_iald (jd_of jb_312 dL_law_634)
theorem p312_635 (lv : jmL) (st : List jmV) (w : jmW) (b : Nat) (x1 : Int) (x2 : Int) : rn 312 (635, lv, .inl x2 :: .inl x1 :: jvr b :: st, w) = jq_s (mS w b) (1, 7, 0) (jq_b (decide (jwd st ≤ 8)) (jq_c 312 638 lv st (rn 104 (0, [(0, jvr b), (1, .inl x1), (2, .inl x2)], [], w)))) := q_callv (as := [.inl x1, .inl x2]) (rest := st) (jd_of jb_312 dL_law_635) jo_312 jk_10_78 rfl rfl rfl jo_104 jf_312_104 (Nat.le_of_ble_eq_true rfl)
theorem p312_638 (lv : jmL) (st : List jmV) (w : jmW) : rn 312 (638, lv, st, w) = jq_lda 312 639 lv st w (jg lv 2) := q_aload_n (jd_of jb_312 dL_law_638) rfl
theorem p312_639 (lv : jmL) (st : List jmV) (w : jmW) : rn 312 (639, lv, st, w) = jq_lda 312 640 lv st w (jg lv 0) := q_aload_n (jd_of jb_312 dL_law_639) rfl
theorem p312_640 (lv : jmL) (st : List jmV) (w : jmW) : rn 312 (640, lv, st, w) = jq_ldi 312 642 lv st w (jg lv 4) := q_iload (jd_of jb_312 dL_law_640)
theorem p312_642 (lv : jmL) (st : List jmV) (w : jmW) : rn 312 (642, lv, st, w) = rn 312 (643, lv, .inl (1) :: st, w) := q_iconst (jd_of jb_312 dL_law_642)
theorem p312_643 (lv : jmL) (st : List jmV) (w : jmW) (x y : Int) : rn 312 (643, lv, .inl y :: .inl x :: st, w) = rn 312 (644, lv, .inl (x + y) :: st, w) := q_iadd (jd_of jb_312 dL_law_643)
theorem p312_644 (lv : jmL) (st : List jmV) (w : jmW) (a : Nat) (j : Int) : rn 312 (644, lv, .inl j :: jvr a :: st, w) = jq_gr (mS w a) 0 j 312 645 lv (.inl (mI w a (jix j)) :: st) (w) := q_iald (jd_of jb_312 dL_law_644)
theorem p312_645 (lv : jmL) (st : List jmV) (w : jmW) : rn 312 (645, lv, st, w) = jq_lda 312 646 lv st w (jg lv 0) := q_aload_n (jd_of jb_312 dL_law_645) rfl
theorem p312_646 (lv : jmL) (st : List jmV) (w : jmW) : rn 312 (646, lv, st, w) = jq_ldi 312 648 lv st w (jg lv 4) := q_iload (jd_of jb_312 dL_law_646)
theorem p312_648 (lv : jmL) (st : List jmV) (w : jmW) : rn 312 (648, lv, st, w) = rn 312 (649, lv, .inl (2) :: st, w) := q_iconst (jd_of jb_312 dL_law_648)
theorem p312_649 (lv : jmL) (st : List jmV) (w : jmW) (x y : Int) : rn 312 (649, lv, .inl y :: .inl x :: st, w) = rn 312 (650, lv, .inl (x + y) :: st, w) := q_iadd (jd_of jb_312 dL_law_649)
theorem p312_650 (lv : jmL) (st : List jmV) (w : jmW) (a : Nat) (j : Int) : rn 312 (650, lv, .inl j :: jvr a :: st, w) = jq_gr (mS w a) 0 j 312 651 lv (.inl (mI w a (jix j)) :: st) (w) := q_iald (jd_of jb_312 dL_law_650)
theorem p312_651 (lv : jmL) (st : List jmV) (w : jmW) (b : Nat) (x1 : Int) (x2 : Int) : rn 312 (651, lv, .inl x2 :: .inl x1 :: jvr b :: st, w) = jq_s (mS w b) (1, 9, 0) (jq_b (decide (jwd st ≤ 8)) (jq_c 312 654 lv st (rn 257 (0, [(0, jvr b), (1, .inl x1), (2, .inl x2)], [], w)))) := q_callv (as := [.inl x1, .inl x2]) (rest := st) (jd_of jb_312 dL_law_651) jo_312 jk_10_81 rfl rfl rfl jo_257 jf_312_257 (Nat.le_of_ble_eq_true rfl)
theorem p312_654 (lv : jmL) (st : List jmV) (w : jmW) (x y : Int) : rn 312 (654, lv, .inl y :: .inl x :: st, w) = if jw x = jw y then rn 312 (1590, lv, st, w) else rn 312 (657, lv, st, w) := q_icmp_eq (jd_of jb_312 dL_law_654) (by decide)
theorem p312_657 (lv : jmL) (st : List jmV) (w : jmW) : rn 312 (657, lv, st, w) = rn 312 (658, lv, .inl (0) :: st, w) := q_iconst (jd_of jb_312 dL_law_657)
theorem p312_658 (lv : jmL) (w : jmW) (x : Int) : rn 312 (658, lv, [.inl x], w) = jq_b (decide (x = 0 ∨ x = 1)) (some (some (.inl x), w)) := q_zreturn (jd_of jb_312 dL_law_658) jr_312
theorem p312_659 (lv : jmL) (st : List jmV) (w : jmW) : rn 312 (659, lv, st, w) = jq_lda 312 660 lv st w (jg lv 1) := q_aload_n (jd_of jb_312 dL_law_659) rfl
theorem p312_660 (lv : jmL) (st : List jmV) (w : jmW) : rn 312 (660, lv, st, w) = jq_lda 312 661 lv st w (jg lv 0) := q_aload_n (jd_of jb_312 dL_law_660) rfl
theorem p312_661 (lv : jmL) (st : List jmV) (w : jmW) : rn 312 (661, lv, st, w) = jq_ldi 312 663 lv st w (jg lv 4) := q_iload (jd_of jb_312 dL_law_661)
theorem p312_663 (lv : jmL) (st : List jmV) (w : jmW) : rn 312 (663, lv, st, w) = rn 312 (664, lv, .inl (1) :: st, w) := q_iconst (jd_of jb_312 dL_law_663)
theorem p312_664 (lv : jmL) (st : List jmV) (w : jmW) (x y : Int) : rn 312 (664, lv, .inl y :: .inl x :: st, w) = rn 312 (665, lv, .inl (x + y) :: st, w) := q_iadd (jd_of jb_312 dL_law_664)
theorem p312_665 (lv : jmL) (st : List jmV) (w : jmW) (a : Nat) (j : Int) : rn 312 (665, lv, .inl j :: jvr a :: st, w) = jq_gr (mS w a) 0 j 312 666 lv (.inl (mI w a (jix j)) :: st) (w) := q_iald (jd_of jb_312 dL_law_665)
theorem p312_666 (lv : jmL) (st : List jmV) (w : jmW) : rn 312 (666, lv, st, w) = jq_lda 312 667 lv st w (jg lv 0) := q_aload_n (jd_of jb_312 dL_law_666) rfl
theorem p312_667 (lv : jmL) (st : List jmV) (w : jmW) : rn 312 (667, lv, st, w) = jq_ldi 312 669 lv st w (jg lv 4) := q_iload (jd_of jb_312 dL_law_667)
theorem p312_669 (lv : jmL) (st : List jmV) (w : jmW) : rn 312 (669, lv, st, w) = rn 312 (670, lv, .inl (2) :: st, w) := q_iconst (jd_of jb_312 dL_law_669)
theorem p312_670 (lv : jmL) (st : List jmV) (w : jmW) (x y : Int) : rn 312 (670, lv, .inl y :: .inl x :: st, w) = rn 312 (671, lv, .inl (x + y) :: st, w) := q_iadd (jd_of jb_312 dL_law_670)
theorem p312_671 (lv : jmL) (st : List jmV) (w : jmW) (a : Nat) (j : Int) : rn 312 (671, lv, .inl j :: jvr a :: st, w) = jq_gr (mS w a) 0 j 312 672 lv (.inl (mI w a (jix j)) :: st) (w) := q_iald (jd_of jb_312 dL_law_671)
theorem p312_672 (lv : jmL) (st : List jmV) (w : jmW) (b : Nat) (x1 : Int) (x2 : Int) : rn 312 (672, lv, .inl x2 :: .inl x1 :: jvr b :: st, w) = jq_s (mS w b) (1, 7, 0) (jq_b (decide (jwd st ≤ 8)) (jq_c 312 675 lv st (rn 106 (0, [(0, jvr b), (1, .inl x1), (2, .inl x2)], [], w)))) := q_callv (as := [.inl x1, .inl x2]) (rest := st) (jd_of jb_312 dL_law_672) jo_312 jk_10_82 rfl rfl rfl jo_106 jf_312_106 (Nat.le_of_ble_eq_true rfl)
theorem p312_675 (lv : jmL) (st : List jmV) (w : jmW) : rn 312 (675, lv, st, w) = jq_lda 312 676 lv st w (jg lv 2) := q_aload_n (jd_of jb_312 dL_law_675) rfl
theorem p312_676 (lv : jmL) (st : List jmV) (w : jmW) : rn 312 (676, lv, st, w) = jq_lda 312 677 lv st w (jg lv 0) := q_aload_n (jd_of jb_312 dL_law_676) rfl
theorem p312_677 (lv : jmL) (st : List jmV) (w : jmW) : rn 312 (677, lv, st, w) = jq_ldi 312 679 lv st w (jg lv 4) := q_iload (jd_of jb_312 dL_law_677)
theorem p312_679 (lv : jmL) (st : List jmV) (w : jmW) : rn 312 (679, lv, st, w) = rn 312 (680, lv, .inl (1) :: st, w) := q_iconst (jd_of jb_312 dL_law_679)
theorem p312_680 (lv : jmL) (st : List jmV) (w : jmW) (x y : Int) : rn 312 (680, lv, .inl y :: .inl x :: st, w) = rn 312 (681, lv, .inl (x + y) :: st, w) := q_iadd (jd_of jb_312 dL_law_680)
theorem p312_681 (lv : jmL) (st : List jmV) (w : jmW) (a : Nat) (j : Int) : rn 312 (681, lv, .inl j :: jvr a :: st, w) = jq_gr (mS w a) 0 j 312 682 lv (.inl (mI w a (jix j)) :: st) (w) := q_iald (jd_of jb_312 dL_law_681)
theorem p312_682 (lv : jmL) (st : List jmV) (w : jmW) : rn 312 (682, lv, st, w) = jq_lda 312 683 lv st w (jg lv 0) := q_aload_n (jd_of jb_312 dL_law_682) rfl
theorem p312_683 (lv : jmL) (st : List jmV) (w : jmW) : rn 312 (683, lv, st, w) = jq_ldi 312 685 lv st w (jg lv 4) := q_iload (jd_of jb_312 dL_law_683)
theorem p312_685 (lv : jmL) (st : List jmV) (w : jmW) : rn 312 (685, lv, st, w) = rn 312 (686, lv, .inl (2) :: st, w) := q_iconst (jd_of jb_312 dL_law_685)
theorem p312_686 (lv : jmL) (st : List jmV) (w : jmW) (x y : Int) : rn 312 (686, lv, .inl y :: .inl x :: st, w) = rn 312 (687, lv, .inl (x + y) :: st, w) := q_iadd (jd_of jb_312 dL_law_686)
theorem p312_687 (lv : jmL) (st : List jmV) (w : jmW) (a : Nat) (j : Int) : rn 312 (687, lv, .inl j :: jvr a :: st, w) = jq_gr (mS w a) 0 j 312 688 lv (.inl (mI w a (jix j)) :: st) (w) := q_iald (jd_of jb_312 dL_law_687)
theorem p312_688 (lv : jmL) (st : List jmV) (w : jmW) (b : Nat) (x1 : Int) (x2 : Int) : rn 312 (688, lv, .inl x2 :: .inl x1 :: jvr b :: st, w) = jq_s (mS w b) (1, 9, 0) (jq_b (decide (jwd st ≤ 8)) (jq_c 312 691 lv st (rn 259 (0, [(0, jvr b), (1, .inl x1), (2, .inl x2)], [], w)))) := q_callv (as := [.inl x1, .inl x2]) (rest := st) (jd_of jb_312 dL_law_688) jo_312 jk_10_85 rfl rfl rfl jo_259 jf_312_259 (Nat.le_of_ble_eq_true rfl)
theorem p312_691 (lv : jmL) (st : List jmV) (w : jmW) (x y : Int) : rn 312 (691, lv, .inl y :: .inl x :: st, w) = if jw x = jw y then rn 312 (1590, lv, st, w) else rn 312 (694, lv, st, w) := q_icmp_eq (jd_of jb_312 dL_law_691) (by decide)
theorem p312_694 (lv : jmL) (st : List jmV) (w : jmW) : rn 312 (694, lv, st, w) = rn 312 (695, lv, .inl (0) :: st, w) := q_iconst (jd_of jb_312 dL_law_694)
theorem p312_695 (lv : jmL) (w : jmW) (x : Int) : rn 312 (695, lv, [.inl x], w) = jq_b (decide (x = 0 ∨ x = 1)) (some (some (.inl x), w)) := q_zreturn (jd_of jb_312 dL_law_695) jr_312
theorem p312_696 (lv : jmL) (st : List jmV) (w : jmW) : rn 312 (696, lv, st, w) = jq_lda 312 697 lv st w (jg lv 1) := q_aload_n (jd_of jb_312 dL_law_696) rfl
theorem p312_697 (lv : jmL) (st : List jmV) (w : jmW) : rn 312 (697, lv, st, w) = jq_lda 312 698 lv st w (jg lv 0) := q_aload_n (jd_of jb_312 dL_law_697) rfl
theorem p312_698 (lv : jmL) (st : List jmV) (w : jmW) : rn 312 (698, lv, st, w) = jq_ldi 312 700 lv st w (jg lv 4) := q_iload (jd_of jb_312 dL_law_698)
theorem p312_700 (lv : jmL) (st : List jmV) (w : jmW) : rn 312 (700, lv, st, w) = rn 312 (701, lv, .inl (1) :: st, w) := q_iconst (jd_of jb_312 dL_law_700)
theorem p312_701 (lv : jmL) (st : List jmV) (w : jmW) (x y : Int) : rn 312 (701, lv, .inl y :: .inl x :: st, w) = rn 312 (702, lv, .inl (x + y) :: st, w) := q_iadd (jd_of jb_312 dL_law_701)
theorem p312_702 (lv : jmL) (st : List jmV) (w : jmW) (a : Nat) (j : Int) : rn 312 (702, lv, .inl j :: jvr a :: st, w) = jq_gr (mS w a) 0 j 312 703 lv (.inl (mI w a (jix j)) :: st) (w) := q_iald (jd_of jb_312 dL_law_702)
theorem p312_703 (lv : jmL) (st : List jmV) (w : jmW) (b : Nat) (x1 : Int) : rn 312 (703, lv, .inl x1 :: jvr b :: st, w) = jq_s (mS w b) (1, 7, 0) (jq_b (decide (jwd st ≤ 8)) (jq_c 312 706 lv st (rn 107 (0, [(0, jvr b), (1, .inl x1)], [], w)))) := q_callv (as := [.inl x1]) (rest := st) (jd_of jb_312 dL_law_703) jo_312 jk_10_86 rfl rfl rfl jo_107 jf_312_107 (Nat.le_of_ble_eq_true rfl)
theorem p312_706 (lv : jmL) (st : List jmV) (w : jmW) : rn 312 (706, lv, st, w) = jq_lda 312 707 lv st w (jg lv 2) := q_aload_n (jd_of jb_312 dL_law_706) rfl
theorem p312_707 (lv : jmL) (st : List jmV) (w : jmW) : rn 312 (707, lv, st, w) = jq_lda 312 708 lv st w (jg lv 0) := q_aload_n (jd_of jb_312 dL_law_707) rfl
theorem p312_708 (lv : jmL) (st : List jmV) (w : jmW) : rn 312 (708, lv, st, w) = jq_ldi 312 710 lv st w (jg lv 4) := q_iload (jd_of jb_312 dL_law_708)
theorem p312_710 (lv : jmL) (st : List jmV) (w : jmW) : rn 312 (710, lv, st, w) = rn 312 (711, lv, .inl (1) :: st, w) := q_iconst (jd_of jb_312 dL_law_710)
theorem p312_711 (lv : jmL) (st : List jmV) (w : jmW) (x y : Int) : rn 312 (711, lv, .inl y :: .inl x :: st, w) = rn 312 (712, lv, .inl (x + y) :: st, w) := q_iadd (jd_of jb_312 dL_law_711)
theorem p312_712 (lv : jmL) (st : List jmV) (w : jmW) (a : Nat) (j : Int) : rn 312 (712, lv, .inl j :: jvr a :: st, w) = jq_gr (mS w a) 0 j 312 713 lv (.inl (mI w a (jix j)) :: st) (w) := q_iald (jd_of jb_312 dL_law_712)
theorem p312_713 (lv : jmL) (st : List jmV) (w : jmW) (b : Nat) (x1 : Int) : rn 312 (713, lv, .inl x1 :: jvr b :: st, w) = jq_s (mS w b) (1, 9, 0) (jq_b (decide (jwd st ≤ 8)) (jq_c 312 716 lv st (rn 260 (0, [(0, jvr b), (1, .inl x1)], [], w)))) := q_callv (as := [.inl x1]) (rest := st) (jd_of jb_312 dL_law_713) jo_312 jk_10_89 rfl rfl rfl jo_260 jf_312_260 (Nat.le_of_ble_eq_true rfl)
theorem p312_716 (lv : jmL) (st : List jmV) (w : jmW) (x y : Int) : rn 312 (716, lv, .inl y :: .inl x :: st, w) = if jw x = jw y then rn 312 (1590, lv, st, w) else rn 312 (719, lv, st, w) := q_icmp_eq (jd_of jb_312 dL_law_716) (by decide)
theorem p312_719 (lv : jmL) (st : List jmV) (w : jmW) : rn 312 (719, lv, st, w) = rn 312 (720, lv, .inl (0) :: st, w) := q_iconst (jd_of jb_312 dL_law_719)
theorem p312_720 (lv : jmL) (w : jmW) (x : Int) : rn 312 (720, lv, [.inl x], w) = jq_b (decide (x = 0 ∨ x = 1)) (some (some (.inl x), w)) := q_zreturn (jd_of jb_312 dL_law_720) jr_312
theorem p312_721 (lv : jmL) (st : List jmV) (w : jmW) : rn 312 (721, lv, st, w) = jq_lda 312 722 lv st w (jg lv 1) := q_aload_n (jd_of jb_312 dL_law_721) rfl
theorem p312_722 (lv : jmL) (st : List jmV) (w : jmW) : rn 312 (722, lv, st, w) = jq_lda 312 723 lv st w (jg lv 0) := q_aload_n (jd_of jb_312 dL_law_722) rfl
theorem p312_723 (lv : jmL) (st : List jmV) (w : jmW) : rn 312 (723, lv, st, w) = jq_ldi 312 725 lv st w (jg lv 4) := q_iload (jd_of jb_312 dL_law_723)
theorem p312_725 (lv : jmL) (st : List jmV) (w : jmW) : rn 312 (725, lv, st, w) = rn 312 (726, lv, .inl (1) :: st, w) := q_iconst (jd_of jb_312 dL_law_725)
theorem p312_726 (lv : jmL) (st : List jmV) (w : jmW) (x y : Int) : rn 312 (726, lv, .inl y :: .inl x :: st, w) = rn 312 (727, lv, .inl (x + y) :: st, w) := q_iadd (jd_of jb_312 dL_law_726)
theorem p312_727 (lv : jmL) (st : List jmV) (w : jmW) (a : Nat) (j : Int) : rn 312 (727, lv, .inl j :: jvr a :: st, w) = jq_gr (mS w a) 0 j 312 728 lv (.inl (mI w a (jix j)) :: st) (w) := q_iald (jd_of jb_312 dL_law_727)
theorem p312_728 (lv : jmL) (st : List jmV) (w : jmW) (b : Nat) (x1 : Int) : rn 312 (728, lv, .inl x1 :: jvr b :: st, w) = jq_s (mS w b) (1, 7, 0) (jq_b (decide (jwd st ≤ 8)) (jq_c 312 731 lv st (rn 109 (0, [(0, jvr b), (1, .inl x1)], [], w)))) := q_callv (as := [.inl x1]) (rest := st) (jd_of jb_312 dL_law_728) jo_312 jk_10_90 rfl rfl rfl jo_109 jf_312_109 (Nat.le_of_ble_eq_true rfl)
theorem p312_731 (lv : jmL) (st : List jmV) (w : jmW) : rn 312 (731, lv, st, w) = jq_lda 312 732 lv st w (jg lv 2) := q_aload_n (jd_of jb_312 dL_law_731) rfl
theorem p312_732 (lv : jmL) (st : List jmV) (w : jmW) : rn 312 (732, lv, st, w) = jq_lda 312 733 lv st w (jg lv 0) := q_aload_n (jd_of jb_312 dL_law_732) rfl
theorem p312_733 (lv : jmL) (st : List jmV) (w : jmW) : rn 312 (733, lv, st, w) = jq_ldi 312 735 lv st w (jg lv 4) := q_iload (jd_of jb_312 dL_law_733)
theorem p312_735 (lv : jmL) (st : List jmV) (w : jmW) : rn 312 (735, lv, st, w) = rn 312 (736, lv, .inl (1) :: st, w) := q_iconst (jd_of jb_312 dL_law_735)
theorem p312_736 (lv : jmL) (st : List jmV) (w : jmW) (x y : Int) : rn 312 (736, lv, .inl y :: .inl x :: st, w) = rn 312 (737, lv, .inl (x + y) :: st, w) := q_iadd (jd_of jb_312 dL_law_736)
theorem p312_737 (lv : jmL) (st : List jmV) (w : jmW) (a : Nat) (j : Int) : rn 312 (737, lv, .inl j :: jvr a :: st, w) = jq_gr (mS w a) 0 j 312 738 lv (.inl (mI w a (jix j)) :: st) (w) := q_iald (jd_of jb_312 dL_law_737)
theorem p312_738 (lv : jmL) (st : List jmV) (w : jmW) (b : Nat) (x1 : Int) : rn 312 (738, lv, .inl x1 :: jvr b :: st, w) = jq_s (mS w b) (1, 9, 0) (jq_b (decide (jwd st ≤ 8)) (jq_c 312 741 lv st (rn 261 (0, [(0, jvr b), (1, .inl x1)], [], w)))) := q_callv (as := [.inl x1]) (rest := st) (jd_of jb_312 dL_law_738) jo_312 jk_10_93 rfl rfl rfl jo_261 jf_312_261 (Nat.le_of_ble_eq_true rfl)
theorem p312_741 (lv : jmL) (st : List jmV) (w : jmW) (x y : Int) : rn 312 (741, lv, .inl y :: .inl x :: st, w) = if jw x = jw y then rn 312 (1590, lv, st, w) else rn 312 (744, lv, st, w) := q_icmp_eq (jd_of jb_312 dL_law_741) (by decide)
theorem p312_744 (lv : jmL) (st : List jmV) (w : jmW) : rn 312 (744, lv, st, w) = rn 312 (745, lv, .inl (0) :: st, w) := q_iconst (jd_of jb_312 dL_law_744)
theorem p312_745 (lv : jmL) (w : jmW) (x : Int) : rn 312 (745, lv, [.inl x], w) = jq_b (decide (x = 0 ∨ x = 1)) (some (some (.inl x), w)) := q_zreturn (jd_of jb_312 dL_law_745) jr_312
theorem p312_746 (lv : jmL) (st : List jmV) (w : jmW) : rn 312 (746, lv, st, w) = jq_lda 312 747 lv st w (jg lv 1) := q_aload_n (jd_of jb_312 dL_law_746) rfl
theorem p312_747 (lv : jmL) (st : List jmV) (w : jmW) : rn 312 (747, lv, st, w) = jq_lda 312 748 lv st w (jg lv 0) := q_aload_n (jd_of jb_312 dL_law_747) rfl
theorem p312_748 (lv : jmL) (st : List jmV) (w : jmW) : rn 312 (748, lv, st, w) = jq_ldi 312 750 lv st w (jg lv 4) := q_iload (jd_of jb_312 dL_law_748)
theorem p312_750 (lv : jmL) (st : List jmV) (w : jmW) : rn 312 (750, lv, st, w) = rn 312 (751, lv, .inl (1) :: st, w) := q_iconst (jd_of jb_312 dL_law_750)
theorem p312_751 (lv : jmL) (st : List jmV) (w : jmW) (x y : Int) : rn 312 (751, lv, .inl y :: .inl x :: st, w) = rn 312 (752, lv, .inl (x + y) :: st, w) := q_iadd (jd_of jb_312 dL_law_751)
theorem p312_752 (lv : jmL) (st : List jmV) (w : jmW) (a : Nat) (j : Int) : rn 312 (752, lv, .inl j :: jvr a :: st, w) = jq_gr (mS w a) 0 j 312 753 lv (.inl (mI w a (jix j)) :: st) (w) := q_iald (jd_of jb_312 dL_law_752)
theorem p312_753 (lv : jmL) (st : List jmV) (w : jmW) (b : Nat) (x1 : Int) : rn 312 (753, lv, .inl x1 :: jvr b :: st, w) = jq_s (mS w b) (1, 7, 0) (jq_b (decide (jwd st ≤ 8)) (jq_c 312 756 lv st (rn 111 (0, [(0, jvr b), (1, .inl x1)], [], w)))) := q_callv (as := [.inl x1]) (rest := st) (jd_of jb_312 dL_law_753) jo_312 jk_10_94 rfl rfl rfl jo_111 jf_312_111 (Nat.le_of_ble_eq_true rfl)
theorem p312_756 (lv : jmL) (st : List jmV) (w : jmW) : rn 312 (756, lv, st, w) = jq_lda 312 757 lv st w (jg lv 2) := q_aload_n (jd_of jb_312 dL_law_756) rfl
theorem p312_757 (lv : jmL) (st : List jmV) (w : jmW) : rn 312 (757, lv, st, w) = jq_lda 312 758 lv st w (jg lv 0) := q_aload_n (jd_of jb_312 dL_law_757) rfl
theorem p312_758 (lv : jmL) (st : List jmV) (w : jmW) : rn 312 (758, lv, st, w) = jq_ldi 312 760 lv st w (jg lv 4) := q_iload (jd_of jb_312 dL_law_758)
theorem p312_760 (lv : jmL) (st : List jmV) (w : jmW) : rn 312 (760, lv, st, w) = rn 312 (761, lv, .inl (1) :: st, w) := q_iconst (jd_of jb_312 dL_law_760)
theorem p312_761 (lv : jmL) (st : List jmV) (w : jmW) (x y : Int) : rn 312 (761, lv, .inl y :: .inl x :: st, w) = rn 312 (762, lv, .inl (x + y) :: st, w) := q_iadd (jd_of jb_312 dL_law_761)
theorem p312_762 (lv : jmL) (st : List jmV) (w : jmW) (a : Nat) (j : Int) : rn 312 (762, lv, .inl j :: jvr a :: st, w) = jq_gr (mS w a) 0 j 312 763 lv (.inl (mI w a (jix j)) :: st) (w) := q_iald (jd_of jb_312 dL_law_762)
theorem p312_763 (lv : jmL) (st : List jmV) (w : jmW) (b : Nat) (x1 : Int) : rn 312 (763, lv, .inl x1 :: jvr b :: st, w) = jq_s (mS w b) (1, 9, 0) (jq_b (decide (jwd st ≤ 8)) (jq_c 312 766 lv st (rn 262 (0, [(0, jvr b), (1, .inl x1)], [], w)))) := q_callv (as := [.inl x1]) (rest := st) (jd_of jb_312 dL_law_763) jo_312 jk_10_97 rfl rfl rfl jo_262 jf_312_262 (Nat.le_of_ble_eq_true rfl)
theorem p312_766 (lv : jmL) (st : List jmV) (w : jmW) (x y : Int) : rn 312 (766, lv, .inl y :: .inl x :: st, w) = if jw x = jw y then rn 312 (1590, lv, st, w) else rn 312 (769, lv, st, w) := q_icmp_eq (jd_of jb_312 dL_law_766) (by decide)
theorem p312_769 (lv : jmL) (st : List jmV) (w : jmW) : rn 312 (769, lv, st, w) = rn 312 (770, lv, .inl (0) :: st, w) := q_iconst (jd_of jb_312 dL_law_769)
theorem p312_770 (lv : jmL) (w : jmW) (x : Int) : rn 312 (770, lv, [.inl x], w) = jq_b (decide (x = 0 ∨ x = 1)) (some (some (.inl x), w)) := q_zreturn (jd_of jb_312 dL_law_770) jr_312
theorem p312_771 (lv : jmL) (st : List jmV) (w : jmW) : rn 312 (771, lv, st, w) = jq_lda 312 772 lv st w (jg lv 1) := q_aload_n (jd_of jb_312 dL_law_771) rfl
theorem p312_772 (lv : jmL) (st : List jmV) (w : jmW) : rn 312 (772, lv, st, w) = jq_lda 312 773 lv st w (jg lv 0) := q_aload_n (jd_of jb_312 dL_law_772) rfl
theorem p312_773 (lv : jmL) (st : List jmV) (w : jmW) : rn 312 (773, lv, st, w) = jq_ldi 312 775 lv st w (jg lv 4) := q_iload (jd_of jb_312 dL_law_773)
theorem p312_775 (lv : jmL) (st : List jmV) (w : jmW) : rn 312 (775, lv, st, w) = rn 312 (776, lv, .inl (1) :: st, w) := q_iconst (jd_of jb_312 dL_law_775)
theorem p312_776 (lv : jmL) (st : List jmV) (w : jmW) (x y : Int) : rn 312 (776, lv, .inl y :: .inl x :: st, w) = rn 312 (777, lv, .inl (x + y) :: st, w) := q_iadd (jd_of jb_312 dL_law_776)
theorem p312_777 (lv : jmL) (st : List jmV) (w : jmW) (a : Nat) (j : Int) : rn 312 (777, lv, .inl j :: jvr a :: st, w) = jq_gr (mS w a) 0 j 312 778 lv (.inl (mI w a (jix j)) :: st) (w) := q_iald (jd_of jb_312 dL_law_777)
theorem p312_778 (lv : jmL) (st : List jmV) (w : jmW) (b : Nat) (x1 : Int) : rn 312 (778, lv, .inl x1 :: jvr b :: st, w) = jq_s (mS w b) (1, 7, 0) (jq_b (decide (jwd st ≤ 8)) (jq_c 312 781 lv st (rn 112 (0, [(0, jvr b), (1, .inl x1)], [], w)))) := q_callv (as := [.inl x1]) (rest := st) (jd_of jb_312 dL_law_778) jo_312 jk_10_98 rfl rfl rfl jo_112 jf_312_112 (Nat.le_of_ble_eq_true rfl)
theorem p312_781 (lv : jmL) (st : List jmV) (w : jmW) : rn 312 (781, lv, st, w) = jq_lda 312 782 lv st w (jg lv 2) := q_aload_n (jd_of jb_312 dL_law_781) rfl
theorem p312_782 (lv : jmL) (st : List jmV) (w : jmW) : rn 312 (782, lv, st, w) = jq_lda 312 783 lv st w (jg lv 0) := q_aload_n (jd_of jb_312 dL_law_782) rfl
theorem p312_783 (lv : jmL) (st : List jmV) (w : jmW) : rn 312 (783, lv, st, w) = jq_ldi 312 785 lv st w (jg lv 4) := q_iload (jd_of jb_312 dL_law_783)
theorem p312_785 (lv : jmL) (st : List jmV) (w : jmW) : rn 312 (785, lv, st, w) = rn 312 (786, lv, .inl (1) :: st, w) := q_iconst (jd_of jb_312 dL_law_785)
theorem p312_786 (lv : jmL) (st : List jmV) (w : jmW) (x y : Int) : rn 312 (786, lv, .inl y :: .inl x :: st, w) = rn 312 (787, lv, .inl (x + y) :: st, w) := q_iadd (jd_of jb_312 dL_law_786)
theorem p312_787 (lv : jmL) (st : List jmV) (w : jmW) (a : Nat) (j : Int) : rn 312 (787, lv, .inl j :: jvr a :: st, w) = jq_gr (mS w a) 0 j 312 788 lv (.inl (mI w a (jix j)) :: st) (w) := q_iald (jd_of jb_312 dL_law_787)
theorem p312_788 (lv : jmL) (st : List jmV) (w : jmW) (b : Nat) (x1 : Int) : rn 312 (788, lv, .inl x1 :: jvr b :: st, w) = jq_s (mS w b) (1, 9, 0) (jq_b (decide (jwd st ≤ 8)) (jq_c 312 791 lv st (rn 264 (0, [(0, jvr b), (1, .inl x1)], [], w)))) := q_callv (as := [.inl x1]) (rest := st) (jd_of jb_312 dL_law_788) jo_312 jk_10_101 rfl rfl rfl jo_264 jf_312_264 (Nat.le_of_ble_eq_true rfl)
theorem p312_791 (lv : jmL) (st : List jmV) (w : jmW) (x y : Int) : rn 312 (791, lv, .inl y :: .inl x :: st, w) = if jw x = jw y then rn 312 (1590, lv, st, w) else rn 312 (794, lv, st, w) := q_icmp_eq (jd_of jb_312 dL_law_791) (by decide)
theorem p312_794 (lv : jmL) (st : List jmV) (w : jmW) : rn 312 (794, lv, st, w) = rn 312 (795, lv, .inl (0) :: st, w) := q_iconst (jd_of jb_312 dL_law_794)
theorem p312_795 (lv : jmL) (w : jmW) (x : Int) : rn 312 (795, lv, [.inl x], w) = jq_b (decide (x = 0 ∨ x = 1)) (some (some (.inl x), w)) := q_zreturn (jd_of jb_312 dL_law_795) jr_312
theorem p312_796 (lv : jmL) (st : List jmV) (w : jmW) : rn 312 (796, lv, st, w) = jq_lda 312 797 lv st w (jg lv 1) := q_aload_n (jd_of jb_312 dL_law_796) rfl
theorem p312_797 (lv : jmL) (st : List jmV) (w : jmW) : rn 312 (797, lv, st, w) = jq_lda 312 798 lv st w (jg lv 0) := q_aload_n (jd_of jb_312 dL_law_797) rfl
theorem p312_798 (lv : jmL) (st : List jmV) (w : jmW) : rn 312 (798, lv, st, w) = jq_ldi 312 800 lv st w (jg lv 4) := q_iload (jd_of jb_312 dL_law_798)
theorem p312_800 (lv : jmL) (st : List jmV) (w : jmW) : rn 312 (800, lv, st, w) = rn 312 (801, lv, .inl (1) :: st, w) := q_iconst (jd_of jb_312 dL_law_800)
theorem p312_801 (lv : jmL) (st : List jmV) (w : jmW) (x y : Int) : rn 312 (801, lv, .inl y :: .inl x :: st, w) = rn 312 (802, lv, .inl (x + y) :: st, w) := q_iadd (jd_of jb_312 dL_law_801)
theorem p312_802 (lv : jmL) (st : List jmV) (w : jmW) (a : Nat) (j : Int) : rn 312 (802, lv, .inl j :: jvr a :: st, w) = jq_gr (mS w a) 0 j 312 803 lv (.inl (mI w a (jix j)) :: st) (w) := q_iald (jd_of jb_312 dL_law_802)
theorem p312_803 (lv : jmL) (st : List jmV) (w : jmW) (b : Nat) (x1 : Int) : rn 312 (803, lv, .inl x1 :: jvr b :: st, w) = jq_s (mS w b) (1, 7, 0) (jq_b (decide (jwd st ≤ 8)) (jq_c 312 806 lv st (rn 113 (0, [(0, jvr b), (1, .inl x1)], [], w)))) := q_callv (as := [.inl x1]) (rest := st) (jd_of jb_312 dL_law_803) jo_312 jk_10_102 rfl rfl rfl jo_113 jf_312_113 (Nat.le_of_ble_eq_true rfl)
theorem p312_806 (lv : jmL) (st : List jmV) (w : jmW) : rn 312 (806, lv, st, w) = jq_lda 312 807 lv st w (jg lv 2) := q_aload_n (jd_of jb_312 dL_law_806) rfl
theorem p312_807 (lv : jmL) (st : List jmV) (w : jmW) : rn 312 (807, lv, st, w) = jq_lda 312 808 lv st w (jg lv 0) := q_aload_n (jd_of jb_312 dL_law_807) rfl
theorem p312_808 (lv : jmL) (st : List jmV) (w : jmW) : rn 312 (808, lv, st, w) = jq_ldi 312 810 lv st w (jg lv 4) := q_iload (jd_of jb_312 dL_law_808)
theorem p312_810 (lv : jmL) (st : List jmV) (w : jmW) : rn 312 (810, lv, st, w) = rn 312 (811, lv, .inl (1) :: st, w) := q_iconst (jd_of jb_312 dL_law_810)
theorem p312_811 (lv : jmL) (st : List jmV) (w : jmW) (x y : Int) : rn 312 (811, lv, .inl y :: .inl x :: st, w) = rn 312 (812, lv, .inl (x + y) :: st, w) := q_iadd (jd_of jb_312 dL_law_811)
theorem p312_812 (lv : jmL) (st : List jmV) (w : jmW) (a : Nat) (j : Int) : rn 312 (812, lv, .inl j :: jvr a :: st, w) = jq_gr (mS w a) 0 j 312 813 lv (.inl (mI w a (jix j)) :: st) (w) := q_iald (jd_of jb_312 dL_law_812)
theorem p312_813 (lv : jmL) (st : List jmV) (w : jmW) (b : Nat) (x1 : Int) : rn 312 (813, lv, .inl x1 :: jvr b :: st, w) = jq_s (mS w b) (1, 9, 0) (jq_b (decide (jwd st ≤ 8)) (jq_c 312 816 lv st (rn 265 (0, [(0, jvr b), (1, .inl x1)], [], w)))) := q_callv (as := [.inl x1]) (rest := st) (jd_of jb_312 dL_law_813) jo_312 jk_10_105 rfl rfl rfl jo_265 jf_312_265 (Nat.le_of_ble_eq_true rfl)
theorem p312_816 (lv : jmL) (st : List jmV) (w : jmW) (x y : Int) : rn 312 (816, lv, .inl y :: .inl x :: st, w) = if jw x = jw y then rn 312 (1590, lv, st, w) else rn 312 (819, lv, st, w) := q_icmp_eq (jd_of jb_312 dL_law_816) (by decide)
theorem p312_819 (lv : jmL) (st : List jmV) (w : jmW) : rn 312 (819, lv, st, w) = rn 312 (820, lv, .inl (0) :: st, w) := q_iconst (jd_of jb_312 dL_law_819)
theorem p312_820 (lv : jmL) (w : jmW) (x : Int) : rn 312 (820, lv, [.inl x], w) = jq_b (decide (x = 0 ∨ x = 1)) (some (some (.inl x), w)) := q_zreturn (jd_of jb_312 dL_law_820) jr_312
theorem p312_821 (lv : jmL) (st : List jmV) (w : jmW) : rn 312 (821, lv, st, w) = jq_lda 312 822 lv st w (jg lv 1) := q_aload_n (jd_of jb_312 dL_law_821) rfl
theorem p312_822 (lv : jmL) (st : List jmV) (w : jmW) : rn 312 (822, lv, st, w) = jq_lda 312 823 lv st w (jg lv 0) := q_aload_n (jd_of jb_312 dL_law_822) rfl
theorem p312_823 (lv : jmL) (st : List jmV) (w : jmW) : rn 312 (823, lv, st, w) = jq_ldi 312 825 lv st w (jg lv 4) := q_iload (jd_of jb_312 dL_law_823)
theorem p312_825 (lv : jmL) (st : List jmV) (w : jmW) : rn 312 (825, lv, st, w) = rn 312 (826, lv, .inl (1) :: st, w) := q_iconst (jd_of jb_312 dL_law_825)
theorem p312_826 (lv : jmL) (st : List jmV) (w : jmW) (x y : Int) : rn 312 (826, lv, .inl y :: .inl x :: st, w) = rn 312 (827, lv, .inl (x + y) :: st, w) := q_iadd (jd_of jb_312 dL_law_826)
theorem p312_827 (lv : jmL) (st : List jmV) (w : jmW) (a : Nat) (j : Int) : rn 312 (827, lv, .inl j :: jvr a :: st, w) = jq_gr (mS w a) 0 j 312 828 lv (.inl (mI w a (jix j)) :: st) (w) := q_iald (jd_of jb_312 dL_law_827)
theorem p312_828 (lv : jmL) (st : List jmV) (w : jmW) (b : Nat) (x1 : Int) : rn 312 (828, lv, .inl x1 :: jvr b :: st, w) = jq_s (mS w b) (1, 7, 0) (jq_b (decide (jwd st ≤ 8)) (jq_c 312 831 lv st (rn 114 (0, [(0, jvr b), (1, .inl x1)], [], w)))) := q_callv (as := [.inl x1]) (rest := st) (jd_of jb_312 dL_law_828) jo_312 jk_10_106 rfl rfl rfl jo_114 jf_312_114 (Nat.le_of_ble_eq_true rfl)
theorem p312_831 (lv : jmL) (st : List jmV) (w : jmW) : rn 312 (831, lv, st, w) = jq_lda 312 832 lv st w (jg lv 2) := q_aload_n (jd_of jb_312 dL_law_831) rfl
theorem p312_832 (lv : jmL) (st : List jmV) (w : jmW) : rn 312 (832, lv, st, w) = jq_lda 312 833 lv st w (jg lv 0) := q_aload_n (jd_of jb_312 dL_law_832) rfl
theorem p312_833 (lv : jmL) (st : List jmV) (w : jmW) : rn 312 (833, lv, st, w) = jq_ldi 312 835 lv st w (jg lv 4) := q_iload (jd_of jb_312 dL_law_833)
theorem p312_835 (lv : jmL) (st : List jmV) (w : jmW) : rn 312 (835, lv, st, w) = rn 312 (836, lv, .inl (1) :: st, w) := q_iconst (jd_of jb_312 dL_law_835)
theorem p312_836 (lv : jmL) (st : List jmV) (w : jmW) (x y : Int) : rn 312 (836, lv, .inl y :: .inl x :: st, w) = rn 312 (837, lv, .inl (x + y) :: st, w) := q_iadd (jd_of jb_312 dL_law_836)
theorem p312_837 (lv : jmL) (st : List jmV) (w : jmW) (a : Nat) (j : Int) : rn 312 (837, lv, .inl j :: jvr a :: st, w) = jq_gr (mS w a) 0 j 312 838 lv (.inl (mI w a (jix j)) :: st) (w) := q_iald (jd_of jb_312 dL_law_837)
theorem p312_838 (lv : jmL) (st : List jmV) (w : jmW) (b : Nat) (x1 : Int) : rn 312 (838, lv, .inl x1 :: jvr b :: st, w) = jq_s (mS w b) (1, 9, 0) (jq_b (decide (jwd st ≤ 8)) (jq_c 312 841 lv st (rn 266 (0, [(0, jvr b), (1, .inl x1)], [], w)))) := q_callv (as := [.inl x1]) (rest := st) (jd_of jb_312 dL_law_838) jo_312 jk_10_109 rfl rfl rfl jo_266 jf_312_266 (Nat.le_of_ble_eq_true rfl)
theorem p312_841 (lv : jmL) (st : List jmV) (w : jmW) (x y : Int) : rn 312 (841, lv, .inl y :: .inl x :: st, w) = if jw x = jw y then rn 312 (1590, lv, st, w) else rn 312 (844, lv, st, w) := q_icmp_eq (jd_of jb_312 dL_law_841) (by decide)
theorem p312_844 (lv : jmL) (st : List jmV) (w : jmW) : rn 312 (844, lv, st, w) = rn 312 (845, lv, .inl (0) :: st, w) := q_iconst (jd_of jb_312 dL_law_844)
theorem p312_845 (lv : jmL) (w : jmW) (x : Int) : rn 312 (845, lv, [.inl x], w) = jq_b (decide (x = 0 ∨ x = 1)) (some (some (.inl x), w)) := q_zreturn (jd_of jb_312 dL_law_845) jr_312
theorem p312_846 (lv : jmL) (st : List jmV) (w : jmW) : rn 312 (846, lv, st, w) = jq_lda 312 847 lv st w (jg lv 1) := q_aload_n (jd_of jb_312 dL_law_846) rfl
theorem p312_847 (lv : jmL) (st : List jmV) (w : jmW) : rn 312 (847, lv, st, w) = jq_lda 312 848 lv st w (jg lv 0) := q_aload_n (jd_of jb_312 dL_law_847) rfl
theorem p312_848 (lv : jmL) (st : List jmV) (w : jmW) : rn 312 (848, lv, st, w) = jq_ldi 312 850 lv st w (jg lv 4) := q_iload (jd_of jb_312 dL_law_848)
theorem p312_850 (lv : jmL) (st : List jmV) (w : jmW) : rn 312 (850, lv, st, w) = rn 312 (851, lv, .inl (1) :: st, w) := q_iconst (jd_of jb_312 dL_law_850)
theorem p312_851 (lv : jmL) (st : List jmV) (w : jmW) (x y : Int) : rn 312 (851, lv, .inl y :: .inl x :: st, w) = rn 312 (852, lv, .inl (x + y) :: st, w) := q_iadd (jd_of jb_312 dL_law_851)
theorem p312_852 (lv : jmL) (st : List jmV) (w : jmW) (a : Nat) (j : Int) : rn 312 (852, lv, .inl j :: jvr a :: st, w) = jq_gr (mS w a) 0 j 312 853 lv (.inl (mI w a (jix j)) :: st) (w) := q_iald (jd_of jb_312 dL_law_852)
theorem p312_853 (lv : jmL) (st : List jmV) (w : jmW) : rn 312 (853, lv, st, w) = jq_lda 312 854 lv st w (jg lv 0) := q_aload_n (jd_of jb_312 dL_law_853) rfl
theorem p312_854 (lv : jmL) (st : List jmV) (w : jmW) : rn 312 (854, lv, st, w) = jq_ldi 312 856 lv st w (jg lv 4) := q_iload (jd_of jb_312 dL_law_854)
theorem p312_856 (lv : jmL) (st : List jmV) (w : jmW) : rn 312 (856, lv, st, w) = rn 312 (857, lv, .inl (2) :: st, w) := q_iconst (jd_of jb_312 dL_law_856)
theorem p312_857 (lv : jmL) (st : List jmV) (w : jmW) (x y : Int) : rn 312 (857, lv, .inl y :: .inl x :: st, w) = rn 312 (858, lv, .inl (x + y) :: st, w) := q_iadd (jd_of jb_312 dL_law_857)
theorem p312_858 (lv : jmL) (st : List jmV) (w : jmW) (a : Nat) (j : Int) : rn 312 (858, lv, .inl j :: jvr a :: st, w) = jq_gr (mS w a) 0 j 312 859 lv (.inl (mI w a (jix j)) :: st) (w) := q_iald (jd_of jb_312 dL_law_858)
theorem p312_859 (lv : jmL) (st : List jmV) (w : jmW) (b : Nat) (x1 : Int) (x2 : Int) : rn 312 (859, lv, .inl x2 :: .inl x1 :: jvr b :: st, w) = jq_s (mS w b) (1, 7, 0) (jq_b (decide (jwd st ≤ 8)) (jq_c 312 862 lv st (rn 115 (0, [(0, jvr b), (1, .inl x1), (2, .inl x2)], [], w)))) := q_callv (as := [.inl x1, .inl x2]) (rest := st) (jd_of jb_312 dL_law_859) jo_312 jk_10_110 rfl rfl rfl jo_115 jf_312_115 (Nat.le_of_ble_eq_true rfl)
theorem p312_862 (lv : jmL) (st : List jmV) (w : jmW) : rn 312 (862, lv, st, w) = jq_lda 312 863 lv st w (jg lv 2) := q_aload_n (jd_of jb_312 dL_law_862) rfl
theorem p312_863 (lv : jmL) (st : List jmV) (w : jmW) : rn 312 (863, lv, st, w) = jq_lda 312 864 lv st w (jg lv 0) := q_aload_n (jd_of jb_312 dL_law_863) rfl
theorem p312_864 (lv : jmL) (st : List jmV) (w : jmW) : rn 312 (864, lv, st, w) = jq_ldi 312 866 lv st w (jg lv 4) := q_iload (jd_of jb_312 dL_law_864)
theorem p312_866 (lv : jmL) (st : List jmV) (w : jmW) : rn 312 (866, lv, st, w) = rn 312 (867, lv, .inl (1) :: st, w) := q_iconst (jd_of jb_312 dL_law_866)
theorem p312_867 (lv : jmL) (st : List jmV) (w : jmW) (x y : Int) : rn 312 (867, lv, .inl y :: .inl x :: st, w) = rn 312 (868, lv, .inl (x + y) :: st, w) := q_iadd (jd_of jb_312 dL_law_867)
theorem p312_868 (lv : jmL) (st : List jmV) (w : jmW) (a : Nat) (j : Int) : rn 312 (868, lv, .inl j :: jvr a :: st, w) = jq_gr (mS w a) 0 j 312 869 lv (.inl (mI w a (jix j)) :: st) (w) := q_iald (jd_of jb_312 dL_law_868)
theorem p312_869 (lv : jmL) (st : List jmV) (w : jmW) : rn 312 (869, lv, st, w) = jq_lda 312 870 lv st w (jg lv 0) := q_aload_n (jd_of jb_312 dL_law_869) rfl
theorem p312_870 (lv : jmL) (st : List jmV) (w : jmW) : rn 312 (870, lv, st, w) = jq_ldi 312 872 lv st w (jg lv 4) := q_iload (jd_of jb_312 dL_law_870)
theorem p312_872 (lv : jmL) (st : List jmV) (w : jmW) : rn 312 (872, lv, st, w) = rn 312 (873, lv, .inl (2) :: st, w) := q_iconst (jd_of jb_312 dL_law_872)
theorem p312_873 (lv : jmL) (st : List jmV) (w : jmW) (x y : Int) : rn 312 (873, lv, .inl y :: .inl x :: st, w) = rn 312 (874, lv, .inl (x + y) :: st, w) := q_iadd (jd_of jb_312 dL_law_873)
theorem p312_874 (lv : jmL) (st : List jmV) (w : jmW) (a : Nat) (j : Int) : rn 312 (874, lv, .inl j :: jvr a :: st, w) = jq_gr (mS w a) 0 j 312 875 lv (.inl (mI w a (jix j)) :: st) (w) := q_iald (jd_of jb_312 dL_law_874)
theorem p312_875 (lv : jmL) (st : List jmV) (w : jmW) (b : Nat) (x1 : Int) (x2 : Int) : rn 312 (875, lv, .inl x2 :: .inl x1 :: jvr b :: st, w) = jq_s (mS w b) (1, 9, 0) (jq_b (decide (jwd st ≤ 8)) (jq_c 312 878 lv st (rn 267 (0, [(0, jvr b), (1, .inl x1), (2, .inl x2)], [], w)))) := q_callv (as := [.inl x1, .inl x2]) (rest := st) (jd_of jb_312 dL_law_875) jo_312 jk_10_113 rfl rfl rfl jo_267 jf_312_267 (Nat.le_of_ble_eq_true rfl)
theorem p312_878 (lv : jmL) (st : List jmV) (w : jmW) (x y : Int) : rn 312 (878, lv, .inl y :: .inl x :: st, w) = if jw x = jw y then rn 312 (1590, lv, st, w) else rn 312 (881, lv, st, w) := q_icmp_eq (jd_of jb_312 dL_law_878) (by decide)
theorem p312_881 (lv : jmL) (st : List jmV) (w : jmW) : rn 312 (881, lv, st, w) = rn 312 (882, lv, .inl (0) :: st, w) := q_iconst (jd_of jb_312 dL_law_881)
theorem p312_882 (lv : jmL) (w : jmW) (x : Int) : rn 312 (882, lv, [.inl x], w) = jq_b (decide (x = 0 ∨ x = 1)) (some (some (.inl x), w)) := q_zreturn (jd_of jb_312 dL_law_882) jr_312
theorem p312_883 (lv : jmL) (st : List jmV) (w : jmW) : rn 312 (883, lv, st, w) = jq_lda 312 884 lv st w (jg lv 1) := q_aload_n (jd_of jb_312 dL_law_883) rfl
theorem p312_884 (lv : jmL) (st : List jmV) (w : jmW) : rn 312 (884, lv, st, w) = jq_lda 312 885 lv st w (jg lv 0) := q_aload_n (jd_of jb_312 dL_law_884) rfl
theorem p312_885 (lv : jmL) (st : List jmV) (w : jmW) : rn 312 (885, lv, st, w) = jq_ldi 312 887 lv st w (jg lv 4) := q_iload (jd_of jb_312 dL_law_885)
theorem p312_887 (lv : jmL) (st : List jmV) (w : jmW) : rn 312 (887, lv, st, w) = rn 312 (888, lv, .inl (1) :: st, w) := q_iconst (jd_of jb_312 dL_law_887)
theorem p312_888 (lv : jmL) (st : List jmV) (w : jmW) (x y : Int) : rn 312 (888, lv, .inl y :: .inl x :: st, w) = rn 312 (889, lv, .inl (x + y) :: st, w) := q_iadd (jd_of jb_312 dL_law_888)
theorem p312_889 (lv : jmL) (st : List jmV) (w : jmW) (a : Nat) (j : Int) : rn 312 (889, lv, .inl j :: jvr a :: st, w) = jq_gr (mS w a) 0 j 312 890 lv (.inl (mI w a (jix j)) :: st) (w) := q_iald (jd_of jb_312 dL_law_889)
theorem p312_890 (lv : jmL) (st : List jmV) (w : jmW) : rn 312 (890, lv, st, w) = jq_lda 312 891 lv st w (jg lv 0) := q_aload_n (jd_of jb_312 dL_law_890) rfl
theorem p312_891 (lv : jmL) (st : List jmV) (w : jmW) : rn 312 (891, lv, st, w) = jq_ldi 312 893 lv st w (jg lv 4) := q_iload (jd_of jb_312 dL_law_891)
theorem p312_893 (lv : jmL) (st : List jmV) (w : jmW) : rn 312 (893, lv, st, w) = rn 312 (894, lv, .inl (2) :: st, w) := q_iconst (jd_of jb_312 dL_law_893)
theorem p312_894 (lv : jmL) (st : List jmV) (w : jmW) (x y : Int) : rn 312 (894, lv, .inl y :: .inl x :: st, w) = rn 312 (895, lv, .inl (x + y) :: st, w) := q_iadd (jd_of jb_312 dL_law_894)
theorem p312_895 (lv : jmL) (st : List jmV) (w : jmW) (a : Nat) (j : Int) : rn 312 (895, lv, .inl j :: jvr a :: st, w) = jq_gr (mS w a) 0 j 312 896 lv (.inl (mI w a (jix j)) :: st) (w) := q_iald (jd_of jb_312 dL_law_895)
theorem p312_896 (lv : jmL) (st : List jmV) (w : jmW) (b : Nat) (x1 : Int) (x2 : Int) : rn 312 (896, lv, .inl x2 :: .inl x1 :: jvr b :: st, w) = jq_s (mS w b) (1, 7, 0) (jq_b (decide (jwd st ≤ 8)) (jq_c 312 899 lv st (rn 119 (0, [(0, jvr b), (1, .inl x1), (2, .inl x2)], [], w)))) := q_callv (as := [.inl x1, .inl x2]) (rest := st) (jd_of jb_312 dL_law_896) jo_312 jk_10_114 rfl rfl rfl jo_119 jf_312_119 (Nat.le_of_ble_eq_true rfl)
theorem p312_899 (lv : jmL) (st : List jmV) (w : jmW) : rn 312 (899, lv, st, w) = jq_lda 312 900 lv st w (jg lv 2) := q_aload_n (jd_of jb_312 dL_law_899) rfl
theorem p312_900 (lv : jmL) (st : List jmV) (w : jmW) : rn 312 (900, lv, st, w) = jq_lda 312 901 lv st w (jg lv 0) := q_aload_n (jd_of jb_312 dL_law_900) rfl
theorem p312_901 (lv : jmL) (st : List jmV) (w : jmW) : rn 312 (901, lv, st, w) = jq_ldi 312 903 lv st w (jg lv 4) := q_iload (jd_of jb_312 dL_law_901)
theorem p312_903 (lv : jmL) (st : List jmV) (w : jmW) : rn 312 (903, lv, st, w) = rn 312 (904, lv, .inl (1) :: st, w) := q_iconst (jd_of jb_312 dL_law_903)
theorem p312_904 (lv : jmL) (st : List jmV) (w : jmW) (x y : Int) : rn 312 (904, lv, .inl y :: .inl x :: st, w) = rn 312 (905, lv, .inl (x + y) :: st, w) := q_iadd (jd_of jb_312 dL_law_904)
theorem p312_905 (lv : jmL) (st : List jmV) (w : jmW) (a : Nat) (j : Int) : rn 312 (905, lv, .inl j :: jvr a :: st, w) = jq_gr (mS w a) 0 j 312 906 lv (.inl (mI w a (jix j)) :: st) (w) := q_iald (jd_of jb_312 dL_law_905)
theorem p312_906 (lv : jmL) (st : List jmV) (w : jmW) : rn 312 (906, lv, st, w) = jq_lda 312 907 lv st w (jg lv 0) := q_aload_n (jd_of jb_312 dL_law_906) rfl
theorem p312_907 (lv : jmL) (st : List jmV) (w : jmW) : rn 312 (907, lv, st, w) = jq_ldi 312 909 lv st w (jg lv 4) := q_iload (jd_of jb_312 dL_law_907)
theorem p312_909 (lv : jmL) (st : List jmV) (w : jmW) : rn 312 (909, lv, st, w) = rn 312 (910, lv, .inl (2) :: st, w) := q_iconst (jd_of jb_312 dL_law_909)
theorem p312_910 (lv : jmL) (st : List jmV) (w : jmW) (x y : Int) : rn 312 (910, lv, .inl y :: .inl x :: st, w) = rn 312 (911, lv, .inl (x + y) :: st, w) := q_iadd (jd_of jb_312 dL_law_910)
theorem p312_911 (lv : jmL) (st : List jmV) (w : jmW) (a : Nat) (j : Int) : rn 312 (911, lv, .inl j :: jvr a :: st, w) = jq_gr (mS w a) 0 j 312 912 lv (.inl (mI w a (jix j)) :: st) (w) := q_iald (jd_of jb_312 dL_law_911)
theorem p312_912 (lv : jmL) (st : List jmV) (w : jmW) (b : Nat) (x1 : Int) (x2 : Int) : rn 312 (912, lv, .inl x2 :: .inl x1 :: jvr b :: st, w) = jq_s (mS w b) (1, 9, 0) (jq_b (decide (jwd st ≤ 8)) (jq_c 312 915 lv st (rn 270 (0, [(0, jvr b), (1, .inl x1), (2, .inl x2)], [], w)))) := q_callv (as := [.inl x1, .inl x2]) (rest := st) (jd_of jb_312 dL_law_912) jo_312 jk_10_117 rfl rfl rfl jo_270 jf_312_270 (Nat.le_of_ble_eq_true rfl)
theorem p312_915 (lv : jmL) (st : List jmV) (w : jmW) (x y : Int) : rn 312 (915, lv, .inl y :: .inl x :: st, w) = if jw x = jw y then rn 312 (1590, lv, st, w) else rn 312 (918, lv, st, w) := q_icmp_eq (jd_of jb_312 dL_law_915) (by decide)
theorem p312_918 (lv : jmL) (st : List jmV) (w : jmW) : rn 312 (918, lv, st, w) = rn 312 (919, lv, .inl (0) :: st, w) := q_iconst (jd_of jb_312 dL_law_918)
theorem p312_919 (lv : jmL) (w : jmW) (x : Int) : rn 312 (919, lv, [.inl x], w) = jq_b (decide (x = 0 ∨ x = 1)) (some (some (.inl x), w)) := q_zreturn (jd_of jb_312 dL_law_919) jr_312
theorem p312_920 (lv : jmL) (st : List jmV) (w : jmW) : rn 312 (920, lv, st, w) = jq_lda 312 921 lv st w (jg lv 1) := q_aload_n (jd_of jb_312 dL_law_920) rfl
theorem p312_921 (lv : jmL) (st : List jmV) (w : jmW) (b : Nat) : rn 312 (921, lv, jvr b :: st, w) = jq_s (mS w b) (1, 7, 0) (jq_b (decide (jwd st ≤ 8)) (jq_c 312 924 lv st (rn 121 (0, [(0, jvr b)], [], w)))) := q_callv (as := []) (rest := st) (jd_of jb_312 dL_law_921) jo_312 jk_10_118 rfl rfl rfl jo_121 jf_312_121 (Nat.le_of_ble_eq_true rfl)
theorem p312_924 (lv : jmL) (st : List jmV) (w : jmW) : rn 312 (924, lv, st, w) = jq_lda 312 925 lv st w (jg lv 2) := q_aload_n (jd_of jb_312 dL_law_924) rfl
theorem p312_925 (lv : jmL) (st : List jmV) (w : jmW) (b : Nat) : rn 312 (925, lv, jvr b :: st, w) = jq_s (mS w b) (1, 9, 0) (jq_b (decide (jwd st ≤ 8)) (jq_c 312 928 lv st (rn 271 (0, [(0, jvr b)], [], w)))) := q_callv (as := []) (rest := st) (jd_of jb_312 dL_law_925) jo_312 jk_10_121 rfl rfl rfl jo_271 jf_312_271 (Nat.le_of_ble_eq_true rfl)
theorem p312_928 (lv : jmL) (st : List jmV) (w : jmW) (x y : Int) : rn 312 (928, lv, .inl y :: .inl x :: st, w) = if jw x = jw y then rn 312 (1590, lv, st, w) else rn 312 (931, lv, st, w) := q_icmp_eq (jd_of jb_312 dL_law_928) (by decide)
theorem p312_931 (lv : jmL) (st : List jmV) (w : jmW) : rn 312 (931, lv, st, w) = rn 312 (932, lv, .inl (0) :: st, w) := q_iconst (jd_of jb_312 dL_law_931)
theorem p312_932 (lv : jmL) (w : jmW) (x : Int) : rn 312 (932, lv, [.inl x], w) = jq_b (decide (x = 0 ∨ x = 1)) (some (some (.inl x), w)) := q_zreturn (jd_of jb_312 dL_law_932) jr_312
theorem p312_933 (lv : jmL) (st : List jmV) (w : jmW) : rn 312 (933, lv, st, w) = jq_lda 312 934 lv st w (jg lv 1) := q_aload_n (jd_of jb_312 dL_law_933) rfl
theorem p312_934 (lv : jmL) (st : List jmV) (w : jmW) (b : Nat) : rn 312 (934, lv, jvr b :: st, w) = jq_s (mS w b) (1, 7, 0) (jq_b (decide (jwd st ≤ 8)) (jq_c 312 937 lv st (rn 122 (0, [(0, jvr b)], [], w)))) := q_callv (as := []) (rest := st) (jd_of jb_312 dL_law_934) jo_312 jk_10_122 rfl rfl rfl jo_122 jf_312_122 (Nat.le_of_ble_eq_true rfl)
theorem p312_937 (lv : jmL) (st : List jmV) (w : jmW) : rn 312 (937, lv, st, w) = jq_lda 312 938 lv st w (jg lv 2) := q_aload_n (jd_of jb_312 dL_law_937) rfl
theorem p312_938 (lv : jmL) (st : List jmV) (w : jmW) (b : Nat) : rn 312 (938, lv, jvr b :: st, w) = jq_s (mS w b) (1, 9, 0) (jq_b (decide (jwd st ≤ 8)) (jq_c 312 941 lv st (rn 272 (0, [(0, jvr b)], [], w)))) := q_callv (as := []) (rest := st) (jd_of jb_312 dL_law_938) jo_312 jk_10_125 rfl rfl rfl jo_272 jf_312_272 (Nat.le_of_ble_eq_true rfl)
theorem p312_941 (lv : jmL) (st : List jmV) (w : jmW) (x y : Int) : rn 312 (941, lv, .inl y :: .inl x :: st, w) = if jw x = jw y then rn 312 (1590, lv, st, w) else rn 312 (944, lv, st, w) := q_icmp_eq (jd_of jb_312 dL_law_941) (by decide)
theorem p312_944 (lv : jmL) (st : List jmV) (w : jmW) : rn 312 (944, lv, st, w) = rn 312 (945, lv, .inl (0) :: st, w) := q_iconst (jd_of jb_312 dL_law_944)
theorem p312_945 (lv : jmL) (w : jmW) (x : Int) : rn 312 (945, lv, [.inl x], w) = jq_b (decide (x = 0 ∨ x = 1)) (some (some (.inl x), w)) := q_zreturn (jd_of jb_312 dL_law_945) jr_312
theorem p312_946 (lv : jmL) (st : List jmV) (w : jmW) : rn 312 (946, lv, st, w) = jq_lda 312 947 lv st w (jg lv 1) := q_aload_n (jd_of jb_312 dL_law_946) rfl
theorem p312_947 (lv : jmL) (st : List jmV) (w : jmW) : rn 312 (947, lv, st, w) = jq_lda 312 948 lv st w (jg lv 0) := q_aload_n (jd_of jb_312 dL_law_947) rfl
theorem p312_948 (lv : jmL) (st : List jmV) (w : jmW) : rn 312 (948, lv, st, w) = jq_ldi 312 950 lv st w (jg lv 4) := q_iload (jd_of jb_312 dL_law_948)
theorem p312_950 (lv : jmL) (st : List jmV) (w : jmW) : rn 312 (950, lv, st, w) = rn 312 (951, lv, .inl (1) :: st, w) := q_iconst (jd_of jb_312 dL_law_950)
theorem p312_951 (lv : jmL) (st : List jmV) (w : jmW) (x y : Int) : rn 312 (951, lv, .inl y :: .inl x :: st, w) = rn 312 (952, lv, .inl (x + y) :: st, w) := q_iadd (jd_of jb_312 dL_law_951)
theorem p312_952 (lv : jmL) (st : List jmV) (w : jmW) (a : Nat) (j : Int) : rn 312 (952, lv, .inl j :: jvr a :: st, w) = jq_gr (mS w a) 0 j 312 953 lv (.inl (mI w a (jix j)) :: st) (w) := q_iald (jd_of jb_312 dL_law_952)
theorem p312_953 (lv : jmL) (st : List jmV) (w : jmW) (b : Nat) (x1 : Int) : rn 312 (953, lv, .inl x1 :: jvr b :: st, w) = jq_s (mS w b) (1, 7, 0) (jq_b (decide (jwd st ≤ 8)) (jq_c 312 956 lv st (rn 128 (0, [(0, jvr b), (1, .inl x1)], [], w)))) := q_callv (as := [.inl x1]) (rest := st) (jd_of jb_312 dL_law_953) jo_312 jk_10_126 rfl rfl rfl jo_128 jf_312_128 (Nat.le_of_ble_eq_true rfl)
theorem p312_956 (lv : jmL) (st : List jmV) (w : jmW) : rn 312 (956, lv, st, w) = jq_lda 312 957 lv st w (jg lv 2) := q_aload_n (jd_of jb_312 dL_law_956) rfl
theorem p312_957 (lv : jmL) (st : List jmV) (w : jmW) : rn 312 (957, lv, st, w) = jq_lda 312 958 lv st w (jg lv 0) := q_aload_n (jd_of jb_312 dL_law_957) rfl
theorem p312_958 (lv : jmL) (st : List jmV) (w : jmW) : rn 312 (958, lv, st, w) = jq_ldi 312 960 lv st w (jg lv 4) := q_iload (jd_of jb_312 dL_law_958)
theorem p312_960 (lv : jmL) (st : List jmV) (w : jmW) : rn 312 (960, lv, st, w) = rn 312 (961, lv, .inl (1) :: st, w) := q_iconst (jd_of jb_312 dL_law_960)
theorem p312_961 (lv : jmL) (st : List jmV) (w : jmW) (x y : Int) : rn 312 (961, lv, .inl y :: .inl x :: st, w) = rn 312 (962, lv, .inl (x + y) :: st, w) := q_iadd (jd_of jb_312 dL_law_961)
theorem p312_962 (lv : jmL) (st : List jmV) (w : jmW) (a : Nat) (j : Int) : rn 312 (962, lv, .inl j :: jvr a :: st, w) = jq_gr (mS w a) 0 j 312 963 lv (.inl (mI w a (jix j)) :: st) (w) := q_iald (jd_of jb_312 dL_law_962)
theorem p312_963 (lv : jmL) (st : List jmV) (w : jmW) (b : Nat) (x1 : Int) : rn 312 (963, lv, .inl x1 :: jvr b :: st, w) = jq_s (mS w b) (1, 9, 0) (jq_b (decide (jwd st ≤ 8)) (jq_c 312 966 lv st (rn 276 (0, [(0, jvr b), (1, .inl x1)], [], w)))) := q_callv (as := [.inl x1]) (rest := st) (jd_of jb_312 dL_law_963) jo_312 jk_10_129 rfl rfl rfl jo_276 jf_312_276 (Nat.le_of_ble_eq_true rfl)
theorem p312_966 (lv : jmL) (st : List jmV) (w : jmW) (x y : Int) : rn 312 (966, lv, .inl y :: .inl x :: st, w) = if jw x = jw y then rn 312 (1590, lv, st, w) else rn 312 (969, lv, st, w) := q_icmp_eq (jd_of jb_312 dL_law_966) (by decide)
theorem p312_969 (lv : jmL) (st : List jmV) (w : jmW) : rn 312 (969, lv, st, w) = rn 312 (970, lv, .inl (0) :: st, w) := q_iconst (jd_of jb_312 dL_law_969)
theorem p312_970 (lv : jmL) (w : jmW) (x : Int) : rn 312 (970, lv, [.inl x], w) = jq_b (decide (x = 0 ∨ x = 1)) (some (some (.inl x), w)) := q_zreturn (jd_of jb_312 dL_law_970) jr_312
theorem p312_971 (lv : jmL) (st : List jmV) (w : jmW) : rn 312 (971, lv, st, w) = jq_lda 312 972 lv st w (jg lv 1) := q_aload_n (jd_of jb_312 dL_law_971) rfl
theorem p312_972 (lv : jmL) (st : List jmV) (w : jmW) : rn 312 (972, lv, st, w) = jq_lda 312 973 lv st w (jg lv 0) := q_aload_n (jd_of jb_312 dL_law_972) rfl
theorem p312_973 (lv : jmL) (st : List jmV) (w : jmW) : rn 312 (973, lv, st, w) = jq_ldi 312 975 lv st w (jg lv 4) := q_iload (jd_of jb_312 dL_law_973)
theorem p312_975 (lv : jmL) (st : List jmV) (w : jmW) : rn 312 (975, lv, st, w) = rn 312 (976, lv, .inl (1) :: st, w) := q_iconst (jd_of jb_312 dL_law_975)
theorem p312_976 (lv : jmL) (st : List jmV) (w : jmW) (x y : Int) : rn 312 (976, lv, .inl y :: .inl x :: st, w) = rn 312 (977, lv, .inl (x + y) :: st, w) := q_iadd (jd_of jb_312 dL_law_976)
theorem p312_977 (lv : jmL) (st : List jmV) (w : jmW) (a : Nat) (j : Int) : rn 312 (977, lv, .inl j :: jvr a :: st, w) = jq_gr (mS w a) 0 j 312 978 lv (.inl (mI w a (jix j)) :: st) (w) := q_iald (jd_of jb_312 dL_law_977)
theorem p312_978 (lv : jmL) (st : List jmV) (w : jmW) (b : Nat) (x1 : Int) : rn 312 (978, lv, .inl x1 :: jvr b :: st, w) = jq_s (mS w b) (1, 7, 0) (jq_b (decide (jwd st ≤ 8)) (jq_c 312 981 lv st (rn 129 (0, [(0, jvr b), (1, .inl x1)], [], w)))) := q_callv (as := [.inl x1]) (rest := st) (jd_of jb_312 dL_law_978) jo_312 jk_10_130 rfl rfl rfl jo_129 jf_312_129 (Nat.le_of_ble_eq_true rfl)
theorem p312_981 (lv : jmL) (st : List jmV) (w : jmW) : rn 312 (981, lv, st, w) = jq_lda 312 982 lv st w (jg lv 2) := q_aload_n (jd_of jb_312 dL_law_981) rfl
theorem p312_982 (lv : jmL) (st : List jmV) (w : jmW) : rn 312 (982, lv, st, w) = jq_lda 312 983 lv st w (jg lv 0) := q_aload_n (jd_of jb_312 dL_law_982) rfl
theorem p312_983 (lv : jmL) (st : List jmV) (w : jmW) : rn 312 (983, lv, st, w) = jq_ldi 312 985 lv st w (jg lv 4) := q_iload (jd_of jb_312 dL_law_983)
theorem p312_985 (lv : jmL) (st : List jmV) (w : jmW) : rn 312 (985, lv, st, w) = rn 312 (986, lv, .inl (1) :: st, w) := q_iconst (jd_of jb_312 dL_law_985)
theorem p312_986 (lv : jmL) (st : List jmV) (w : jmW) (x y : Int) : rn 312 (986, lv, .inl y :: .inl x :: st, w) = rn 312 (987, lv, .inl (x + y) :: st, w) := q_iadd (jd_of jb_312 dL_law_986)
theorem p312_987 (lv : jmL) (st : List jmV) (w : jmW) (a : Nat) (j : Int) : rn 312 (987, lv, .inl j :: jvr a :: st, w) = jq_gr (mS w a) 0 j 312 988 lv (.inl (mI w a (jix j)) :: st) (w) := q_iald (jd_of jb_312 dL_law_987)
theorem p312_988 (lv : jmL) (st : List jmV) (w : jmW) (b : Nat) (x1 : Int) : rn 312 (988, lv, .inl x1 :: jvr b :: st, w) = jq_s (mS w b) (1, 9, 0) (jq_b (decide (jwd st ≤ 8)) (jq_c 312 991 lv st (rn 277 (0, [(0, jvr b), (1, .inl x1)], [], w)))) := q_callv (as := [.inl x1]) (rest := st) (jd_of jb_312 dL_law_988) jo_312 jk_10_133 rfl rfl rfl jo_277 jf_312_277 (Nat.le_of_ble_eq_true rfl)
theorem p312_991 (lv : jmL) (st : List jmV) (w : jmW) (x y : Int) : rn 312 (991, lv, .inl y :: .inl x :: st, w) = if jw x = jw y then rn 312 (1590, lv, st, w) else rn 312 (994, lv, st, w) := q_icmp_eq (jd_of jb_312 dL_law_991) (by decide)
theorem p312_994 (lv : jmL) (st : List jmV) (w : jmW) : rn 312 (994, lv, st, w) = rn 312 (995, lv, .inl (0) :: st, w) := q_iconst (jd_of jb_312 dL_law_994)
theorem p312_995 (lv : jmL) (w : jmW) (x : Int) : rn 312 (995, lv, [.inl x], w) = jq_b (decide (x = 0 ∨ x = 1)) (some (some (.inl x), w)) := q_zreturn (jd_of jb_312 dL_law_995) jr_312
theorem p312_996 (lv : jmL) (st : List jmV) (w : jmW) : rn 312 (996, lv, st, w) = jq_lda 312 997 lv st w (jg lv 1) := q_aload_n (jd_of jb_312 dL_law_996) rfl
theorem p312_997 (lv : jmL) (st : List jmV) (w : jmW) : rn 312 (997, lv, st, w) = jq_lda 312 998 lv st w (jg lv 0) := q_aload_n (jd_of jb_312 dL_law_997) rfl
theorem p312_998 (lv : jmL) (st : List jmV) (w : jmW) : rn 312 (998, lv, st, w) = jq_ldi 312 1000 lv st w (jg lv 4) := q_iload (jd_of jb_312 dL_law_998)
theorem p312_1000 (lv : jmL) (st : List jmV) (w : jmW) : rn 312 (1000, lv, st, w) = rn 312 (1001, lv, .inl (1) :: st, w) := q_iconst (jd_of jb_312 dL_law_1000)
theorem p312_1001 (lv : jmL) (st : List jmV) (w : jmW) (x y : Int) : rn 312 (1001, lv, .inl y :: .inl x :: st, w) = rn 312 (1002, lv, .inl (x + y) :: st, w) := q_iadd (jd_of jb_312 dL_law_1001)
theorem p312_1002 (lv : jmL) (st : List jmV) (w : jmW) (a : Nat) (j : Int) : rn 312 (1002, lv, .inl j :: jvr a :: st, w) = jq_gr (mS w a) 0 j 312 1003 lv (.inl (mI w a (jix j)) :: st) (w) := q_iald (jd_of jb_312 dL_law_1002)
theorem p312_1003 (lv : jmL) (st : List jmV) (w : jmW) (b : Nat) (x1 : Int) : rn 312 (1003, lv, .inl x1 :: jvr b :: st, w) = jq_s (mS w b) (1, 7, 0) (jq_b (decide (jwd st ≤ 8)) (jq_c 312 1006 lv st (rn 130 (0, [(0, jvr b), (1, .inl x1)], [], w)))) := q_callv (as := [.inl x1]) (rest := st) (jd_of jb_312 dL_law_1003) jo_312 jk_10_134 rfl rfl rfl jo_130 jf_312_130 (Nat.le_of_ble_eq_true rfl)
theorem p312_1006 (lv : jmL) (st : List jmV) (w : jmW) : rn 312 (1006, lv, st, w) = jq_lda 312 1007 lv st w (jg lv 2) := q_aload_n (jd_of jb_312 dL_law_1006) rfl
theorem p312_1007 (lv : jmL) (st : List jmV) (w : jmW) : rn 312 (1007, lv, st, w) = jq_lda 312 1008 lv st w (jg lv 0) := q_aload_n (jd_of jb_312 dL_law_1007) rfl
theorem p312_1008 (lv : jmL) (st : List jmV) (w : jmW) : rn 312 (1008, lv, st, w) = jq_ldi 312 1010 lv st w (jg lv 4) := q_iload (jd_of jb_312 dL_law_1008)
theorem p312_1010 (lv : jmL) (st : List jmV) (w : jmW) : rn 312 (1010, lv, st, w) = rn 312 (1011, lv, .inl (1) :: st, w) := q_iconst (jd_of jb_312 dL_law_1010)
theorem p312_1011 (lv : jmL) (st : List jmV) (w : jmW) (x y : Int) : rn 312 (1011, lv, .inl y :: .inl x :: st, w) = rn 312 (1012, lv, .inl (x + y) :: st, w) := q_iadd (jd_of jb_312 dL_law_1011)
theorem p312_1012 (lv : jmL) (st : List jmV) (w : jmW) (a : Nat) (j : Int) : rn 312 (1012, lv, .inl j :: jvr a :: st, w) = jq_gr (mS w a) 0 j 312 1013 lv (.inl (mI w a (jix j)) :: st) (w) := q_iald (jd_of jb_312 dL_law_1012)
theorem p312_1013 (lv : jmL) (st : List jmV) (w : jmW) (b : Nat) (x1 : Int) : rn 312 (1013, lv, .inl x1 :: jvr b :: st, w) = jq_s (mS w b) (1, 9, 0) (jq_b (decide (jwd st ≤ 8)) (jq_c 312 1016 lv st (rn 278 (0, [(0, jvr b), (1, .inl x1)], [], w)))) := q_callv (as := [.inl x1]) (rest := st) (jd_of jb_312 dL_law_1013) jo_312 jk_10_137 rfl rfl rfl jo_278 jf_312_278 (Nat.le_of_ble_eq_true rfl)
theorem p312_1016 (lv : jmL) (st : List jmV) (w : jmW) (x y : Int) : rn 312 (1016, lv, .inl y :: .inl x :: st, w) = if jw x = jw y then rn 312 (1590, lv, st, w) else rn 312 (1019, lv, st, w) := q_icmp_eq (jd_of jb_312 dL_law_1016) (by decide)
theorem p312_1019 (lv : jmL) (st : List jmV) (w : jmW) : rn 312 (1019, lv, st, w) = rn 312 (1020, lv, .inl (0) :: st, w) := q_iconst (jd_of jb_312 dL_law_1019)
theorem p312_1020 (lv : jmL) (w : jmW) (x : Int) : rn 312 (1020, lv, [.inl x], w) = jq_b (decide (x = 0 ∨ x = 1)) (some (some (.inl x), w)) := q_zreturn (jd_of jb_312 dL_law_1020) jr_312
theorem p312_1021 (lv : jmL) (st : List jmV) (w : jmW) : rn 312 (1021, lv, st, w) = jq_lda 312 1022 lv st w (jg lv 1) := q_aload_n (jd_of jb_312 dL_law_1021) rfl
theorem p312_1022 (lv : jmL) (st : List jmV) (w : jmW) : rn 312 (1022, lv, st, w) = jq_lda 312 1023 lv st w (jg lv 0) := q_aload_n (jd_of jb_312 dL_law_1022) rfl
theorem p312_1023 (lv : jmL) (st : List jmV) (w : jmW) : rn 312 (1023, lv, st, w) = jq_ldi 312 1025 lv st w (jg lv 4) := q_iload (jd_of jb_312 dL_law_1023)
theorem p312_1025 (lv : jmL) (st : List jmV) (w : jmW) : rn 312 (1025, lv, st, w) = rn 312 (1026, lv, .inl (1) :: st, w) := q_iconst (jd_of jb_312 dL_law_1025)
theorem p312_1026 (lv : jmL) (st : List jmV) (w : jmW) (x y : Int) : rn 312 (1026, lv, .inl y :: .inl x :: st, w) = rn 312 (1027, lv, .inl (x + y) :: st, w) := q_iadd (jd_of jb_312 dL_law_1026)
theorem p312_1027 (lv : jmL) (st : List jmV) (w : jmW) (a : Nat) (j : Int) : rn 312 (1027, lv, .inl j :: jvr a :: st, w) = jq_gr (mS w a) 0 j 312 1028 lv (.inl (mI w a (jix j)) :: st) (w) := q_iald (jd_of jb_312 dL_law_1027)
theorem p312_1028 (lv : jmL) (st : List jmV) (w : jmW) : rn 312 (1028, lv, st, w) = jq_lda 312 1029 lv st w (jg lv 0) := q_aload_n (jd_of jb_312 dL_law_1028) rfl
theorem p312_1029 (lv : jmL) (st : List jmV) (w : jmW) : rn 312 (1029, lv, st, w) = jq_ldi 312 1031 lv st w (jg lv 4) := q_iload (jd_of jb_312 dL_law_1029)
theorem p312_1031 (lv : jmL) (st : List jmV) (w : jmW) : rn 312 (1031, lv, st, w) = rn 312 (1032, lv, .inl (2) :: st, w) := q_iconst (jd_of jb_312 dL_law_1031)
theorem p312_1032 (lv : jmL) (st : List jmV) (w : jmW) (x y : Int) : rn 312 (1032, lv, .inl y :: .inl x :: st, w) = rn 312 (1033, lv, .inl (x + y) :: st, w) := q_iadd (jd_of jb_312 dL_law_1032)
theorem p312_1033 (lv : jmL) (st : List jmV) (w : jmW) (a : Nat) (j : Int) : rn 312 (1033, lv, .inl j :: jvr a :: st, w) = jq_gr (mS w a) 0 j 312 1034 lv (.inl (mI w a (jix j)) :: st) (w) := q_iald (jd_of jb_312 dL_law_1033)
theorem p312_1034 (lv : jmL) (st : List jmV) (w : jmW) (b : Nat) (x1 : Int) (x2 : Int) : rn 312 (1034, lv, .inl x2 :: .inl x1 :: jvr b :: st, w) = jq_s (mS w b) (1, 7, 0) (jq_b (decide (jwd st ≤ 8)) (jq_c 312 1037 lv st (rn 134 (0, [(0, jvr b), (1, .inl x1), (2, .inl x2)], [], w)))) := q_callv (as := [.inl x1, .inl x2]) (rest := st) (jd_of jb_312 dL_law_1034) jo_312 jk_10_138 rfl rfl rfl jo_134 jf_312_134 (Nat.le_of_ble_eq_true rfl)
theorem p312_1037 (lv : jmL) (st : List jmV) (w : jmW) : rn 312 (1037, lv, st, w) = jq_lda 312 1038 lv st w (jg lv 2) := q_aload_n (jd_of jb_312 dL_law_1037) rfl
theorem p312_1038 (lv : jmL) (st : List jmV) (w : jmW) : rn 312 (1038, lv, st, w) = jq_lda 312 1039 lv st w (jg lv 0) := q_aload_n (jd_of jb_312 dL_law_1038) rfl
theorem p312_1039 (lv : jmL) (st : List jmV) (w : jmW) : rn 312 (1039, lv, st, w) = jq_ldi 312 1041 lv st w (jg lv 4) := q_iload (jd_of jb_312 dL_law_1039)
theorem p312_1041 (lv : jmL) (st : List jmV) (w : jmW) : rn 312 (1041, lv, st, w) = rn 312 (1042, lv, .inl (1) :: st, w) := q_iconst (jd_of jb_312 dL_law_1041)
theorem p312_1042 (lv : jmL) (st : List jmV) (w : jmW) (x y : Int) : rn 312 (1042, lv, .inl y :: .inl x :: st, w) = rn 312 (1043, lv, .inl (x + y) :: st, w) := q_iadd (jd_of jb_312 dL_law_1042)
theorem p312_1043 (lv : jmL) (st : List jmV) (w : jmW) (a : Nat) (j : Int) : rn 312 (1043, lv, .inl j :: jvr a :: st, w) = jq_gr (mS w a) 0 j 312 1044 lv (.inl (mI w a (jix j)) :: st) (w) := q_iald (jd_of jb_312 dL_law_1043)
theorem p312_1044 (lv : jmL) (st : List jmV) (w : jmW) : rn 312 (1044, lv, st, w) = jq_lda 312 1045 lv st w (jg lv 0) := q_aload_n (jd_of jb_312 dL_law_1044) rfl
theorem p312_1045 (lv : jmL) (st : List jmV) (w : jmW) : rn 312 (1045, lv, st, w) = jq_ldi 312 1047 lv st w (jg lv 4) := q_iload (jd_of jb_312 dL_law_1045)
theorem p312_1047 (lv : jmL) (st : List jmV) (w : jmW) : rn 312 (1047, lv, st, w) = rn 312 (1048, lv, .inl (2) :: st, w) := q_iconst (jd_of jb_312 dL_law_1047)
theorem p312_1048 (lv : jmL) (st : List jmV) (w : jmW) (x y : Int) : rn 312 (1048, lv, .inl y :: .inl x :: st, w) = rn 312 (1049, lv, .inl (x + y) :: st, w) := q_iadd (jd_of jb_312 dL_law_1048)
theorem p312_1049 (lv : jmL) (st : List jmV) (w : jmW) (a : Nat) (j : Int) : rn 312 (1049, lv, .inl j :: jvr a :: st, w) = jq_gr (mS w a) 0 j 312 1050 lv (.inl (mI w a (jix j)) :: st) (w) := q_iald (jd_of jb_312 dL_law_1049)
theorem p312_1050 (lv : jmL) (st : List jmV) (w : jmW) (b : Nat) (x1 : Int) (x2 : Int) : rn 312 (1050, lv, .inl x2 :: .inl x1 :: jvr b :: st, w) = jq_s (mS w b) (1, 9, 0) (jq_b (decide (jwd st ≤ 8)) (jq_c 312 1053 lv st (rn 281 (0, [(0, jvr b), (1, .inl x1), (2, .inl x2)], [], w)))) := q_callv (as := [.inl x1, .inl x2]) (rest := st) (jd_of jb_312 dL_law_1050) jo_312 jk_10_141 rfl rfl rfl jo_281 jf_312_281 (Nat.le_of_ble_eq_true rfl)
theorem p312_1053 (lv : jmL) (st : List jmV) (w : jmW) (x y : Int) : rn 312 (1053, lv, .inl y :: .inl x :: st, w) = if jw x = jw y then rn 312 (1590, lv, st, w) else rn 312 (1056, lv, st, w) := q_icmp_eq (jd_of jb_312 dL_law_1053) (by decide)
theorem p312_1056 (lv : jmL) (st : List jmV) (w : jmW) : rn 312 (1056, lv, st, w) = rn 312 (1057, lv, .inl (0) :: st, w) := q_iconst (jd_of jb_312 dL_law_1056)
theorem p312_1057 (lv : jmL) (w : jmW) (x : Int) : rn 312 (1057, lv, [.inl x], w) = jq_b (decide (x = 0 ∨ x = 1)) (some (some (.inl x), w)) := q_zreturn (jd_of jb_312 dL_law_1057) jr_312
theorem p312_1058 (lv : jmL) (st : List jmV) (w : jmW) : rn 312 (1058, lv, st, w) = jq_lda 312 1059 lv st w (jg lv 1) := q_aload_n (jd_of jb_312 dL_law_1058) rfl
theorem p312_1059 (lv : jmL) (st : List jmV) (w : jmW) : rn 312 (1059, lv, st, w) = jq_lda 312 1060 lv st w (jg lv 0) := q_aload_n (jd_of jb_312 dL_law_1059) rfl
theorem p312_1060 (lv : jmL) (st : List jmV) (w : jmW) : rn 312 (1060, lv, st, w) = jq_ldi 312 1062 lv st w (jg lv 4) := q_iload (jd_of jb_312 dL_law_1060)
theorem p312_1062 (lv : jmL) (st : List jmV) (w : jmW) : rn 312 (1062, lv, st, w) = rn 312 (1063, lv, .inl (1) :: st, w) := q_iconst (jd_of jb_312 dL_law_1062)
theorem p312_1063 (lv : jmL) (st : List jmV) (w : jmW) (x y : Int) : rn 312 (1063, lv, .inl y :: .inl x :: st, w) = rn 312 (1064, lv, .inl (x + y) :: st, w) := q_iadd (jd_of jb_312 dL_law_1063)
theorem p312_1064 (lv : jmL) (st : List jmV) (w : jmW) (a : Nat) (j : Int) : rn 312 (1064, lv, .inl j :: jvr a :: st, w) = jq_gr (mS w a) 0 j 312 1065 lv (.inl (mI w a (jix j)) :: st) (w) := q_iald (jd_of jb_312 dL_law_1064)
theorem p312_1065 (lv : jmL) (st : List jmV) (w : jmW) : rn 312 (1065, lv, st, w) = jq_lda 312 1066 lv st w (jg lv 0) := q_aload_n (jd_of jb_312 dL_law_1065) rfl
theorem p312_1066 (lv : jmL) (st : List jmV) (w : jmW) : rn 312 (1066, lv, st, w) = jq_ldi 312 1068 lv st w (jg lv 4) := q_iload (jd_of jb_312 dL_law_1066)
theorem p312_1068 (lv : jmL) (st : List jmV) (w : jmW) : rn 312 (1068, lv, st, w) = rn 312 (1069, lv, .inl (2) :: st, w) := q_iconst (jd_of jb_312 dL_law_1068)
theorem p312_1069 (lv : jmL) (st : List jmV) (w : jmW) (x y : Int) : rn 312 (1069, lv, .inl y :: .inl x :: st, w) = rn 312 (1070, lv, .inl (x + y) :: st, w) := q_iadd (jd_of jb_312 dL_law_1069)
theorem p312_1070 (lv : jmL) (st : List jmV) (w : jmW) (a : Nat) (j : Int) : rn 312 (1070, lv, .inl j :: jvr a :: st, w) = jq_gr (mS w a) 0 j 312 1071 lv (.inl (mI w a (jix j)) :: st) (w) := q_iald (jd_of jb_312 dL_law_1070)
theorem p312_1071 (lv : jmL) (st : List jmV) (w : jmW) : rn 312 (1071, lv, st, w) = jq_lda 312 1072 lv st w (jg lv 0) := q_aload_n (jd_of jb_312 dL_law_1071) rfl
theorem p312_1072 (lv : jmL) (st : List jmV) (w : jmW) : rn 312 (1072, lv, st, w) = jq_ldi 312 1074 lv st w (jg lv 4) := q_iload (jd_of jb_312 dL_law_1072)
theorem p312_1074 (lv : jmL) (st : List jmV) (w : jmW) : rn 312 (1074, lv, st, w) = rn 312 (1075, lv, .inl (3) :: st, w) := q_iconst (jd_of jb_312 dL_law_1074)
theorem p312_1075 (lv : jmL) (st : List jmV) (w : jmW) (x y : Int) : rn 312 (1075, lv, .inl y :: .inl x :: st, w) = rn 312 (1076, lv, .inl (x + y) :: st, w) := q_iadd (jd_of jb_312 dL_law_1075)
theorem p312_1076 (lv : jmL) (st : List jmV) (w : jmW) (a : Nat) (j : Int) : rn 312 (1076, lv, .inl j :: jvr a :: st, w) = jq_gr (mS w a) 0 j 312 1077 lv (.inl (mI w a (jix j)) :: st) (w) := q_iald (jd_of jb_312 dL_law_1076)
theorem p312_1077 (lv : jmL) (st : List jmV) (w : jmW) (b : Nat) (x1 : Int) (x2 : Int) (x3 : Int) : rn 312 (1077, lv, .inl x3 :: .inl x2 :: .inl x1 :: jvr b :: st, w) = jq_s (mS w b) (1, 7, 0) (jq_b (decide (jwd st ≤ 8)) (jq_c 312 1080 lv st (rn 135 (0, [(0, jvr b), (1, .inl x1), (2, .inl x2), (3, .inl x3)], [], w)))) := q_callv (as := [.inl x1, .inl x2, .inl x3]) (rest := st) (jd_of jb_312 dL_law_1077) jo_312 jk_10_142 rfl rfl rfl jo_135 jf_312_135 (Nat.le_of_ble_eq_true rfl)
theorem p312_1080 (lv : jmL) (st : List jmV) (w : jmW) : rn 312 (1080, lv, st, w) = jq_lda 312 1081 lv st w (jg lv 2) := q_aload_n (jd_of jb_312 dL_law_1080) rfl
theorem p312_1081 (lv : jmL) (st : List jmV) (w : jmW) : rn 312 (1081, lv, st, w) = jq_lda 312 1082 lv st w (jg lv 0) := q_aload_n (jd_of jb_312 dL_law_1081) rfl
theorem p312_1082 (lv : jmL) (st : List jmV) (w : jmW) : rn 312 (1082, lv, st, w) = jq_ldi 312 1084 lv st w (jg lv 4) := q_iload (jd_of jb_312 dL_law_1082)
theorem p312_1084 (lv : jmL) (st : List jmV) (w : jmW) : rn 312 (1084, lv, st, w) = rn 312 (1085, lv, .inl (1) :: st, w) := q_iconst (jd_of jb_312 dL_law_1084)
theorem p312_1085 (lv : jmL) (st : List jmV) (w : jmW) (x y : Int) : rn 312 (1085, lv, .inl y :: .inl x :: st, w) = rn 312 (1086, lv, .inl (x + y) :: st, w) := q_iadd (jd_of jb_312 dL_law_1085)
theorem p312_1086 (lv : jmL) (st : List jmV) (w : jmW) (a : Nat) (j : Int) : rn 312 (1086, lv, .inl j :: jvr a :: st, w) = jq_gr (mS w a) 0 j 312 1087 lv (.inl (mI w a (jix j)) :: st) (w) := q_iald (jd_of jb_312 dL_law_1086)
theorem p312_1087 (lv : jmL) (st : List jmV) (w : jmW) : rn 312 (1087, lv, st, w) = jq_lda 312 1088 lv st w (jg lv 0) := q_aload_n (jd_of jb_312 dL_law_1087) rfl
theorem p312_1088 (lv : jmL) (st : List jmV) (w : jmW) : rn 312 (1088, lv, st, w) = jq_ldi 312 1090 lv st w (jg lv 4) := q_iload (jd_of jb_312 dL_law_1088)
theorem p312_1090 (lv : jmL) (st : List jmV) (w : jmW) : rn 312 (1090, lv, st, w) = rn 312 (1091, lv, .inl (2) :: st, w) := q_iconst (jd_of jb_312 dL_law_1090)
theorem p312_1091 (lv : jmL) (st : List jmV) (w : jmW) (x y : Int) : rn 312 (1091, lv, .inl y :: .inl x :: st, w) = rn 312 (1092, lv, .inl (x + y) :: st, w) := q_iadd (jd_of jb_312 dL_law_1091)
theorem p312_1092 (lv : jmL) (st : List jmV) (w : jmW) (a : Nat) (j : Int) : rn 312 (1092, lv, .inl j :: jvr a :: st, w) = jq_gr (mS w a) 0 j 312 1093 lv (.inl (mI w a (jix j)) :: st) (w) := q_iald (jd_of jb_312 dL_law_1092)
theorem p312_1093 (lv : jmL) (st : List jmV) (w : jmW) : rn 312 (1093, lv, st, w) = jq_lda 312 1094 lv st w (jg lv 0) := q_aload_n (jd_of jb_312 dL_law_1093) rfl
theorem p312_1094 (lv : jmL) (st : List jmV) (w : jmW) : rn 312 (1094, lv, st, w) = jq_ldi 312 1096 lv st w (jg lv 4) := q_iload (jd_of jb_312 dL_law_1094)
theorem p312_1096 (lv : jmL) (st : List jmV) (w : jmW) : rn 312 (1096, lv, st, w) = rn 312 (1097, lv, .inl (3) :: st, w) := q_iconst (jd_of jb_312 dL_law_1096)
theorem p312_1097 (lv : jmL) (st : List jmV) (w : jmW) (x y : Int) : rn 312 (1097, lv, .inl y :: .inl x :: st, w) = rn 312 (1098, lv, .inl (x + y) :: st, w) := q_iadd (jd_of jb_312 dL_law_1097)
theorem p312_1098 (lv : jmL) (st : List jmV) (w : jmW) (a : Nat) (j : Int) : rn 312 (1098, lv, .inl j :: jvr a :: st, w) = jq_gr (mS w a) 0 j 312 1099 lv (.inl (mI w a (jix j)) :: st) (w) := q_iald (jd_of jb_312 dL_law_1098)
theorem p312_1099 (lv : jmL) (st : List jmV) (w : jmW) (b : Nat) (x1 : Int) (x2 : Int) (x3 : Int) : rn 312 (1099, lv, .inl x3 :: .inl x2 :: .inl x1 :: jvr b :: st, w) = jq_s (mS w b) (1, 9, 0) (jq_b (decide (jwd st ≤ 8)) (jq_c 312 1102 lv st (rn 282 (0, [(0, jvr b), (1, .inl x1), (2, .inl x2), (3, .inl x3)], [], w)))) := q_callv (as := [.inl x1, .inl x2, .inl x3]) (rest := st) (jd_of jb_312 dL_law_1099) jo_312 jk_10_146 rfl rfl rfl jo_282 jf_312_282 (Nat.le_of_ble_eq_true rfl)
theorem p312_1102 (lv : jmL) (st : List jmV) (w : jmW) (x y : Int) : rn 312 (1102, lv, .inl y :: .inl x :: st, w) = if jw x = jw y then rn 312 (1590, lv, st, w) else rn 312 (1105, lv, st, w) := q_icmp_eq (jd_of jb_312 dL_law_1102) (by decide)
theorem p312_1105 (lv : jmL) (st : List jmV) (w : jmW) : rn 312 (1105, lv, st, w) = rn 312 (1106, lv, .inl (0) :: st, w) := q_iconst (jd_of jb_312 dL_law_1105)
theorem p312_1106 (lv : jmL) (w : jmW) (x : Int) : rn 312 (1106, lv, [.inl x], w) = jq_b (decide (x = 0 ∨ x = 1)) (some (some (.inl x), w)) := q_zreturn (jd_of jb_312 dL_law_1106) jr_312
theorem p312_1107 (lv : jmL) (st : List jmV) (w : jmW) : rn 312 (1107, lv, st, w) = jq_lda 312 1108 lv st w (jg lv 1) := q_aload_n (jd_of jb_312 dL_law_1107) rfl
theorem p312_1108 (lv : jmL) (st : List jmV) (w : jmW) : rn 312 (1108, lv, st, w) = jq_lda 312 1109 lv st w (jg lv 0) := q_aload_n (jd_of jb_312 dL_law_1108) rfl
theorem p312_1109 (lv : jmL) (st : List jmV) (w : jmW) : rn 312 (1109, lv, st, w) = jq_ldi 312 1111 lv st w (jg lv 4) := q_iload (jd_of jb_312 dL_law_1109)
theorem p312_1111 (lv : jmL) (st : List jmV) (w : jmW) : rn 312 (1111, lv, st, w) = rn 312 (1112, lv, .inl (1) :: st, w) := q_iconst (jd_of jb_312 dL_law_1111)
theorem p312_1112 (lv : jmL) (st : List jmV) (w : jmW) (x y : Int) : rn 312 (1112, lv, .inl y :: .inl x :: st, w) = rn 312 (1113, lv, .inl (x + y) :: st, w) := q_iadd (jd_of jb_312 dL_law_1112)
theorem p312_1113 (lv : jmL) (st : List jmV) (w : jmW) (a : Nat) (j : Int) : rn 312 (1113, lv, .inl j :: jvr a :: st, w) = jq_gr (mS w a) 0 j 312 1114 lv (.inl (mI w a (jix j)) :: st) (w) := q_iald (jd_of jb_312 dL_law_1113)
theorem p312_1114 (lv : jmL) (st : List jmV) (w : jmW) : rn 312 (1114, lv, st, w) = jq_lda 312 1115 lv st w (jg lv 0) := q_aload_n (jd_of jb_312 dL_law_1114) rfl
theorem p312_1115 (lv : jmL) (st : List jmV) (w : jmW) : rn 312 (1115, lv, st, w) = jq_ldi 312 1117 lv st w (jg lv 4) := q_iload (jd_of jb_312 dL_law_1115)
theorem p312_1117 (lv : jmL) (st : List jmV) (w : jmW) : rn 312 (1117, lv, st, w) = rn 312 (1118, lv, .inl (2) :: st, w) := q_iconst (jd_of jb_312 dL_law_1117)
theorem p312_1118 (lv : jmL) (st : List jmV) (w : jmW) (x y : Int) : rn 312 (1118, lv, .inl y :: .inl x :: st, w) = rn 312 (1119, lv, .inl (x + y) :: st, w) := q_iadd (jd_of jb_312 dL_law_1118)
theorem p312_1119 (lv : jmL) (st : List jmV) (w : jmW) (a : Nat) (j : Int) : rn 312 (1119, lv, .inl j :: jvr a :: st, w) = jq_gr (mS w a) 0 j 312 1120 lv (.inl (mI w a (jix j)) :: st) (w) := q_iald (jd_of jb_312 dL_law_1119)
theorem p312_1120 (lv : jmL) (st : List jmV) (w : jmW) (b : Nat) (x1 : Int) (x2 : Int) : rn 312 (1120, lv, .inl x2 :: .inl x1 :: jvr b :: st, w) = jq_s (mS w b) (1, 7, 0) (jq_b (decide (jwd st ≤ 8)) (jq_c 312 1123 lv st (rn 136 (0, [(0, jvr b), (1, .inl x1), (2, .inl x2)], [], w)))) := q_callv (as := [.inl x1, .inl x2]) (rest := st) (jd_of jb_312 dL_law_1120) jo_312 jk_10_147 rfl rfl rfl jo_136 jf_312_136 (Nat.le_of_ble_eq_true rfl)
theorem p312_1123 (lv : jmL) (st : List jmV) (w : jmW) : rn 312 (1123, lv, st, w) = jq_lda 312 1124 lv st w (jg lv 2) := q_aload_n (jd_of jb_312 dL_law_1123) rfl
theorem p312_1124 (lv : jmL) (st : List jmV) (w : jmW) : rn 312 (1124, lv, st, w) = jq_lda 312 1125 lv st w (jg lv 0) := q_aload_n (jd_of jb_312 dL_law_1124) rfl
theorem p312_1125 (lv : jmL) (st : List jmV) (w : jmW) : rn 312 (1125, lv, st, w) = jq_ldi 312 1127 lv st w (jg lv 4) := q_iload (jd_of jb_312 dL_law_1125)
theorem p312_1127 (lv : jmL) (st : List jmV) (w : jmW) : rn 312 (1127, lv, st, w) = rn 312 (1128, lv, .inl (1) :: st, w) := q_iconst (jd_of jb_312 dL_law_1127)
theorem p312_1128 (lv : jmL) (st : List jmV) (w : jmW) (x y : Int) : rn 312 (1128, lv, .inl y :: .inl x :: st, w) = rn 312 (1129, lv, .inl (x + y) :: st, w) := q_iadd (jd_of jb_312 dL_law_1128)
theorem p312_1129 (lv : jmL) (st : List jmV) (w : jmW) (a : Nat) (j : Int) : rn 312 (1129, lv, .inl j :: jvr a :: st, w) = jq_gr (mS w a) 0 j 312 1130 lv (.inl (mI w a (jix j)) :: st) (w) := q_iald (jd_of jb_312 dL_law_1129)
theorem p312_1130 (lv : jmL) (st : List jmV) (w : jmW) : rn 312 (1130, lv, st, w) = jq_lda 312 1131 lv st w (jg lv 0) := q_aload_n (jd_of jb_312 dL_law_1130) rfl
theorem p312_1131 (lv : jmL) (st : List jmV) (w : jmW) : rn 312 (1131, lv, st, w) = jq_ldi 312 1133 lv st w (jg lv 4) := q_iload (jd_of jb_312 dL_law_1131)
theorem p312_1133 (lv : jmL) (st : List jmV) (w : jmW) : rn 312 (1133, lv, st, w) = rn 312 (1134, lv, .inl (2) :: st, w) := q_iconst (jd_of jb_312 dL_law_1133)
theorem p312_1134 (lv : jmL) (st : List jmV) (w : jmW) (x y : Int) : rn 312 (1134, lv, .inl y :: .inl x :: st, w) = rn 312 (1135, lv, .inl (x + y) :: st, w) := q_iadd (jd_of jb_312 dL_law_1134)
theorem p312_1135 (lv : jmL) (st : List jmV) (w : jmW) (a : Nat) (j : Int) : rn 312 (1135, lv, .inl j :: jvr a :: st, w) = jq_gr (mS w a) 0 j 312 1136 lv (.inl (mI w a (jix j)) :: st) (w) := q_iald (jd_of jb_312 dL_law_1135)
theorem p312_1136 (lv : jmL) (st : List jmV) (w : jmW) (b : Nat) (x1 : Int) (x2 : Int) : rn 312 (1136, lv, .inl x2 :: .inl x1 :: jvr b :: st, w) = jq_s (mS w b) (1, 9, 0) (jq_b (decide (jwd st ≤ 8)) (jq_c 312 1139 lv st (rn 283 (0, [(0, jvr b), (1, .inl x1), (2, .inl x2)], [], w)))) := q_callv (as := [.inl x1, .inl x2]) (rest := st) (jd_of jb_312 dL_law_1136) jo_312 jk_10_150 rfl rfl rfl jo_283 jf_312_283 (Nat.le_of_ble_eq_true rfl)
theorem p312_1139 (lv : jmL) (st : List jmV) (w : jmW) (x y : Int) : rn 312 (1139, lv, .inl y :: .inl x :: st, w) = if jw x = jw y then rn 312 (1590, lv, st, w) else rn 312 (1142, lv, st, w) := q_icmp_eq (jd_of jb_312 dL_law_1139) (by decide)
theorem p312_1142 (lv : jmL) (st : List jmV) (w : jmW) : rn 312 (1142, lv, st, w) = rn 312 (1143, lv, .inl (0) :: st, w) := q_iconst (jd_of jb_312 dL_law_1142)
theorem p312_1143 (lv : jmL) (w : jmW) (x : Int) : rn 312 (1143, lv, [.inl x], w) = jq_b (decide (x = 0 ∨ x = 1)) (some (some (.inl x), w)) := q_zreturn (jd_of jb_312 dL_law_1143) jr_312
theorem p312_1144 (lv : jmL) (st : List jmV) (w : jmW) : rn 312 (1144, lv, st, w) = jq_lda 312 1145 lv st w (jg lv 1) := q_aload_n (jd_of jb_312 dL_law_1144) rfl
theorem p312_1145 (lv : jmL) (st : List jmV) (w : jmW) (b : Nat) : rn 312 (1145, lv, jvr b :: st, w) = jq_s (mS w b) (1, 7, 0) (jq_b (decide (jwd st ≤ 8)) (jq_c 312 1148 lv st (rn 139 (0, [(0, jvr b)], [], w)))) := q_callv (as := []) (rest := st) (jd_of jb_312 dL_law_1145) jo_312 jk_10_151 rfl rfl rfl jo_139 jf_312_139 (Nat.le_of_ble_eq_true rfl)
theorem p312_1148 (lv : jmL) (st : List jmV) (w : jmW) : rn 312 (1148, lv, st, w) = jq_lda 312 1149 lv st w (jg lv 2) := q_aload_n (jd_of jb_312 dL_law_1148) rfl
theorem p312_1149 (lv : jmL) (st : List jmV) (w : jmW) (b : Nat) : rn 312 (1149, lv, jvr b :: st, w) = jq_s (mS w b) (1, 9, 0) (jq_b (decide (jwd st ≤ 8)) (jq_c 312 1152 lv st (rn 286 (0, [(0, jvr b)], [], w)))) := q_callv (as := []) (rest := st) (jd_of jb_312 dL_law_1149) jo_312 jk_10_154 rfl rfl rfl jo_286 jf_312_286 (Nat.le_of_ble_eq_true rfl)
theorem p312_1152 (lv : jmL) (st : List jmV) (w : jmW) (x y : Int) : rn 312 (1152, lv, .inl y :: .inl x :: st, w) = if jw x = jw y then rn 312 (1590, lv, st, w) else rn 312 (1155, lv, st, w) := q_icmp_eq (jd_of jb_312 dL_law_1152) (by decide)
theorem p312_1155 (lv : jmL) (st : List jmV) (w : jmW) : rn 312 (1155, lv, st, w) = rn 312 (1156, lv, .inl (0) :: st, w) := q_iconst (jd_of jb_312 dL_law_1155)
theorem p312_1156 (lv : jmL) (w : jmW) (x : Int) : rn 312 (1156, lv, [.inl x], w) = jq_b (decide (x = 0 ∨ x = 1)) (some (some (.inl x), w)) := q_zreturn (jd_of jb_312 dL_law_1156) jr_312
theorem p312_1157 (lv : jmL) (st : List jmV) (w : jmW) : rn 312 (1157, lv, st, w) = jq_lda 312 1158 lv st w (jg lv 1) := q_aload_n (jd_of jb_312 dL_law_1157) rfl
theorem p312_1158 (lv : jmL) (st : List jmV) (w : jmW) (b : Nat) : rn 312 (1158, lv, jvr b :: st, w) = jq_s (mS w b) (1, 7, 0) (jq_b (decide (jwd st ≤ 8)) (jq_c 312 1161 lv st (rn 140 (0, [(0, jvr b)], [], w)))) := q_callv (as := []) (rest := st) (jd_of jb_312 dL_law_1158) jo_312 jk_10_155 rfl rfl rfl jo_140 jf_312_140 (Nat.le_of_ble_eq_true rfl)
theorem p312_1161 (lv : jmL) (st : List jmV) (w : jmW) : rn 312 (1161, lv, st, w) = jq_lda 312 1162 lv st w (jg lv 2) := q_aload_n (jd_of jb_312 dL_law_1161) rfl
theorem p312_1162 (lv : jmL) (st : List jmV) (w : jmW) (b : Nat) : rn 312 (1162, lv, jvr b :: st, w) = jq_s (mS w b) (1, 9, 0) (jq_b (decide (jwd st ≤ 8)) (jq_c 312 1165 lv st (rn 287 (0, [(0, jvr b)], [], w)))) := q_callv (as := []) (rest := st) (jd_of jb_312 dL_law_1162) jo_312 jk_10_158 rfl rfl rfl jo_287 jf_312_287 (Nat.le_of_ble_eq_true rfl)
theorem p312_1165 (lv : jmL) (st : List jmV) (w : jmW) (x y : Int) : rn 312 (1165, lv, .inl y :: .inl x :: st, w) = if jw x = jw y then rn 312 (1590, lv, st, w) else rn 312 (1168, lv, st, w) := q_icmp_eq (jd_of jb_312 dL_law_1165) (by decide)
theorem p312_1168 (lv : jmL) (st : List jmV) (w : jmW) : rn 312 (1168, lv, st, w) = rn 312 (1169, lv, .inl (0) :: st, w) := q_iconst (jd_of jb_312 dL_law_1168)
theorem p312_1169 (lv : jmL) (w : jmW) (x : Int) : rn 312 (1169, lv, [.inl x], w) = jq_b (decide (x = 0 ∨ x = 1)) (some (some (.inl x), w)) := q_zreturn (jd_of jb_312 dL_law_1169) jr_312
theorem p312_1170 (lv : jmL) (st : List jmV) (w : jmW) : rn 312 (1170, lv, st, w) = jq_lda 312 1171 lv st w (jg lv 1) := q_aload_n (jd_of jb_312 dL_law_1170) rfl
theorem p312_1171 (lv : jmL) (st : List jmV) (w : jmW) (b : Nat) : rn 312 (1171, lv, jvr b :: st, w) = jq_s (mS w b) (1, 7, 0) (jq_b (decide (jwd st ≤ 8)) (jq_c 312 1174 lv st (rn 142 (0, [(0, jvr b)], [], w)))) := q_callv (as := []) (rest := st) (jd_of jb_312 dL_law_1171) jo_312 jk_10_159 rfl rfl rfl jo_142 jf_312_142 (Nat.le_of_ble_eq_true rfl)
theorem p312_1174 (lv : jmL) (st : List jmV) (w : jmW) : rn 312 (1174, lv, st, w) = jq_lda 312 1175 lv st w (jg lv 2) := q_aload_n (jd_of jb_312 dL_law_1174) rfl
theorem p312_1175 (lv : jmL) (st : List jmV) (w : jmW) (b : Nat) : rn 312 (1175, lv, jvr b :: st, w) = jq_s (mS w b) (1, 9, 0) (jq_b (decide (jwd st ≤ 8)) (jq_c 312 1178 lv st (rn 290 (0, [(0, jvr b)], [], w)))) := q_callv (as := []) (rest := st) (jd_of jb_312 dL_law_1175) jo_312 jk_10_162 rfl rfl rfl jo_290 jf_312_290 (Nat.le_of_ble_eq_true rfl)
theorem p312_1178 (lv : jmL) (st : List jmV) (w : jmW) (x y : Int) : rn 312 (1178, lv, .inl y :: .inl x :: st, w) = if jw x = jw y then rn 312 (1590, lv, st, w) else rn 312 (1181, lv, st, w) := q_icmp_eq (jd_of jb_312 dL_law_1178) (by decide)
theorem p312_1181 (lv : jmL) (st : List jmV) (w : jmW) : rn 312 (1181, lv, st, w) = rn 312 (1182, lv, .inl (0) :: st, w) := q_iconst (jd_of jb_312 dL_law_1181)
theorem p312_1182 (lv : jmL) (w : jmW) (x : Int) : rn 312 (1182, lv, [.inl x], w) = jq_b (decide (x = 0 ∨ x = 1)) (some (some (.inl x), w)) := q_zreturn (jd_of jb_312 dL_law_1182) jr_312
theorem p312_1183 (lv : jmL) (st : List jmV) (w : jmW) : rn 312 (1183, lv, st, w) = jq_lda 312 1184 lv st w (jg lv 1) := q_aload_n (jd_of jb_312 dL_law_1183) rfl
theorem p312_1184 (lv : jmL) (st : List jmV) (w : jmW) (b : Nat) : rn 312 (1184, lv, jvr b :: st, w) = jq_s (mS w b) (1, 7, 0) (jq_b (decide (jwd st ≤ 8)) (jq_c 312 1187 lv st (rn 143 (0, [(0, jvr b)], [], w)))) := q_callv (as := []) (rest := st) (jd_of jb_312 dL_law_1184) jo_312 jk_10_163 rfl rfl rfl jo_143 jf_312_143 (Nat.le_of_ble_eq_true rfl)
theorem p312_1187 (lv : jmL) (st : List jmV) (w : jmW) : rn 312 (1187, lv, st, w) = jq_lda 312 1188 lv st w (jg lv 2) := q_aload_n (jd_of jb_312 dL_law_1187) rfl
theorem p312_1188 (lv : jmL) (st : List jmV) (w : jmW) (b : Nat) : rn 312 (1188, lv, jvr b :: st, w) = jq_s (mS w b) (1, 9, 0) (jq_b (decide (jwd st ≤ 8)) (jq_c 312 1191 lv st (rn 291 (0, [(0, jvr b)], [], w)))) := q_callv (as := []) (rest := st) (jd_of jb_312 dL_law_1188) jo_312 jk_10_166 rfl rfl rfl jo_291 jf_312_291 (Nat.le_of_ble_eq_true rfl)
theorem p312_1191 (lv : jmL) (st : List jmV) (w : jmW) (x y : Int) : rn 312 (1191, lv, .inl y :: .inl x :: st, w) = if jw x = jw y then rn 312 (1590, lv, st, w) else rn 312 (1194, lv, st, w) := q_icmp_eq (jd_of jb_312 dL_law_1191) (by decide)
theorem p312_1194 (lv : jmL) (st : List jmV) (w : jmW) : rn 312 (1194, lv, st, w) = rn 312 (1195, lv, .inl (0) :: st, w) := q_iconst (jd_of jb_312 dL_law_1194)
theorem p312_1195 (lv : jmL) (w : jmW) (x : Int) : rn 312 (1195, lv, [.inl x], w) = jq_b (decide (x = 0 ∨ x = 1)) (some (some (.inl x), w)) := q_zreturn (jd_of jb_312 dL_law_1195) jr_312
theorem p312_1196 (lv : jmL) (st : List jmV) (w : jmW) : rn 312 (1196, lv, st, w) = jq_lda 312 1197 lv st w (jg lv 1) := q_aload_n (jd_of jb_312 dL_law_1196) rfl
theorem p312_1197 (lv : jmL) (st : List jmV) (w : jmW) (b : Nat) : rn 312 (1197, lv, jvr b :: st, w) = jq_s (mS w b) (1, 7, 0) (jq_b (decide (jwd st ≤ 8)) (jq_c 312 1200 lv st (rn 144 (0, [(0, jvr b)], [], w)))) := q_callv (as := []) (rest := st) (jd_of jb_312 dL_law_1197) jo_312 jk_10_167 rfl rfl rfl jo_144 jf_312_144 (Nat.le_of_ble_eq_true rfl)
theorem p312_1200 (lv : jmL) (st : List jmV) (w : jmW) : rn 312 (1200, lv, st, w) = jq_lda 312 1201 lv st w (jg lv 2) := q_aload_n (jd_of jb_312 dL_law_1200) rfl
theorem p312_1201 (lv : jmL) (st : List jmV) (w : jmW) (b : Nat) : rn 312 (1201, lv, jvr b :: st, w) = jq_s (mS w b) (1, 9, 0) (jq_b (decide (jwd st ≤ 8)) (jq_c 312 1204 lv st (rn 292 (0, [(0, jvr b)], [], w)))) := q_callv (as := []) (rest := st) (jd_of jb_312 dL_law_1201) jo_312 jk_10_170 rfl rfl rfl jo_292 jf_312_292 (Nat.le_of_ble_eq_true rfl)
theorem p312_1204 (lv : jmL) (st : List jmV) (w : jmW) (x y : Int) : rn 312 (1204, lv, .inl y :: .inl x :: st, w) = if jw x = jw y then rn 312 (1590, lv, st, w) else rn 312 (1207, lv, st, w) := q_icmp_eq (jd_of jb_312 dL_law_1204) (by decide)
theorem p312_1207 (lv : jmL) (st : List jmV) (w : jmW) : rn 312 (1207, lv, st, w) = rn 312 (1208, lv, .inl (0) :: st, w) := q_iconst (jd_of jb_312 dL_law_1207)
theorem p312_1208 (lv : jmL) (w : jmW) (x : Int) : rn 312 (1208, lv, [.inl x], w) = jq_b (decide (x = 0 ∨ x = 1)) (some (some (.inl x), w)) := q_zreturn (jd_of jb_312 dL_law_1208) jr_312
theorem p312_1209 (lv : jmL) (st : List jmV) (w : jmW) : rn 312 (1209, lv, st, w) = jq_lda 312 1210 lv st w (jg lv 1) := q_aload_n (jd_of jb_312 dL_law_1209) rfl
theorem p312_1210 (lv : jmL) (st : List jmV) (w : jmW) : rn 312 (1210, lv, st, w) = jq_lda 312 1211 lv st w (jg lv 0) := q_aload_n (jd_of jb_312 dL_law_1210) rfl
theorem p312_1211 (lv : jmL) (st : List jmV) (w : jmW) : rn 312 (1211, lv, st, w) = jq_ldi 312 1213 lv st w (jg lv 4) := q_iload (jd_of jb_312 dL_law_1211)
theorem p312_1213 (lv : jmL) (st : List jmV) (w : jmW) : rn 312 (1213, lv, st, w) = rn 312 (1214, lv, .inl (1) :: st, w) := q_iconst (jd_of jb_312 dL_law_1213)
theorem p312_1214 (lv : jmL) (st : List jmV) (w : jmW) (x y : Int) : rn 312 (1214, lv, .inl y :: .inl x :: st, w) = rn 312 (1215, lv, .inl (x + y) :: st, w) := q_iadd (jd_of jb_312 dL_law_1214)
theorem p312_1215 (lv : jmL) (st : List jmV) (w : jmW) (a : Nat) (j : Int) : rn 312 (1215, lv, .inl j :: jvr a :: st, w) = jq_gr (mS w a) 0 j 312 1216 lv (.inl (mI w a (jix j)) :: st) (w) := q_iald (jd_of jb_312 dL_law_1215)
theorem p312_1216 (lv : jmL) (st : List jmV) (w : jmW) (b : Nat) (x1 : Int) : rn 312 (1216, lv, .inl x1 :: jvr b :: st, w) = jq_s (mS w b) (1, 7, 0) (jq_b (decide (jwd st ≤ 8)) (jq_c 312 1219 lv st (rn 147 (0, [(0, jvr b), (1, .inl x1)], [], w)))) := q_callv (as := [.inl x1]) (rest := st) (jd_of jb_312 dL_law_1216) jo_312 jk_10_171 rfl rfl rfl jo_147 jf_312_147 (Nat.le_of_ble_eq_true rfl)
theorem p312_1219 (lv : jmL) (st : List jmV) (w : jmW) : rn 312 (1219, lv, st, w) = jq_lda 312 1220 lv st w (jg lv 2) := q_aload_n (jd_of jb_312 dL_law_1219) rfl
theorem p312_1220 (lv : jmL) (st : List jmV) (w : jmW) : rn 312 (1220, lv, st, w) = jq_lda 312 1221 lv st w (jg lv 0) := q_aload_n (jd_of jb_312 dL_law_1220) rfl
theorem p312_1221 (lv : jmL) (st : List jmV) (w : jmW) : rn 312 (1221, lv, st, w) = jq_ldi 312 1223 lv st w (jg lv 4) := q_iload (jd_of jb_312 dL_law_1221)
theorem p312_1223 (lv : jmL) (st : List jmV) (w : jmW) : rn 312 (1223, lv, st, w) = rn 312 (1224, lv, .inl (1) :: st, w) := q_iconst (jd_of jb_312 dL_law_1223)
theorem p312_1224 (lv : jmL) (st : List jmV) (w : jmW) (x y : Int) : rn 312 (1224, lv, .inl y :: .inl x :: st, w) = rn 312 (1225, lv, .inl (x + y) :: st, w) := q_iadd (jd_of jb_312 dL_law_1224)
theorem p312_1225 (lv : jmL) (st : List jmV) (w : jmW) (a : Nat) (j : Int) : rn 312 (1225, lv, .inl j :: jvr a :: st, w) = jq_gr (mS w a) 0 j 312 1226 lv (.inl (mI w a (jix j)) :: st) (w) := q_iald (jd_of jb_312 dL_law_1225)
theorem p312_1226 (lv : jmL) (st : List jmV) (w : jmW) (b : Nat) (x1 : Int) : rn 312 (1226, lv, .inl x1 :: jvr b :: st, w) = jq_s (mS w b) (1, 9, 0) (jq_b (decide (jwd st ≤ 8)) (jq_c 312 1229 lv st (rn 294 (0, [(0, jvr b), (1, .inl x1)], [], w)))) := q_callv (as := [.inl x1]) (rest := st) (jd_of jb_312 dL_law_1226) jo_312 jk_10_174 rfl rfl rfl jo_294 jf_312_294 (Nat.le_of_ble_eq_true rfl)
theorem p312_1229 (lv : jmL) (st : List jmV) (w : jmW) (x y : Int) : rn 312 (1229, lv, .inl y :: .inl x :: st, w) = if jw x = jw y then rn 312 (1590, lv, st, w) else rn 312 (1232, lv, st, w) := q_icmp_eq (jd_of jb_312 dL_law_1229) (by decide)
theorem p312_1232 (lv : jmL) (st : List jmV) (w : jmW) : rn 312 (1232, lv, st, w) = rn 312 (1233, lv, .inl (0) :: st, w) := q_iconst (jd_of jb_312 dL_law_1232)
theorem p312_1233 (lv : jmL) (w : jmW) (x : Int) : rn 312 (1233, lv, [.inl x], w) = jq_b (decide (x = 0 ∨ x = 1)) (some (some (.inl x), w)) := q_zreturn (jd_of jb_312 dL_law_1233) jr_312
theorem p312_1234 (lv : jmL) (st : List jmV) (w : jmW) : rn 312 (1234, lv, st, w) = jq_lda 312 1235 lv st w (jg lv 1) := q_aload_n (jd_of jb_312 dL_law_1234) rfl
theorem p312_1235 (lv : jmL) (st : List jmV) (w : jmW) : rn 312 (1235, lv, st, w) = jq_lda 312 1236 lv st w (jg lv 0) := q_aload_n (jd_of jb_312 dL_law_1235) rfl
theorem p312_1236 (lv : jmL) (st : List jmV) (w : jmW) : rn 312 (1236, lv, st, w) = jq_ldi 312 1238 lv st w (jg lv 4) := q_iload (jd_of jb_312 dL_law_1236)
theorem p312_1238 (lv : jmL) (st : List jmV) (w : jmW) : rn 312 (1238, lv, st, w) = rn 312 (1239, lv, .inl (1) :: st, w) := q_iconst (jd_of jb_312 dL_law_1238)
theorem p312_1239 (lv : jmL) (st : List jmV) (w : jmW) (x y : Int) : rn 312 (1239, lv, .inl y :: .inl x :: st, w) = rn 312 (1240, lv, .inl (x + y) :: st, w) := q_iadd (jd_of jb_312 dL_law_1239)
theorem p312_1240 (lv : jmL) (st : List jmV) (w : jmW) (a : Nat) (j : Int) : rn 312 (1240, lv, .inl j :: jvr a :: st, w) = jq_gr (mS w a) 0 j 312 1241 lv (.inl (mI w a (jix j)) :: st) (w) := q_iald (jd_of jb_312 dL_law_1240)
theorem p312_1241 (lv : jmL) (st : List jmV) (w : jmW) (b : Nat) (x1 : Int) : rn 312 (1241, lv, .inl x1 :: jvr b :: st, w) = jq_s (mS w b) (1, 7, 0) (jq_b (decide (jwd st ≤ 8)) (jq_c 312 1244 lv st (rn 152 (0, [(0, jvr b), (1, .inl x1)], [], w)))) := q_callv (as := [.inl x1]) (rest := st) (jd_of jb_312 dL_law_1241) jo_312 jk_10_175 rfl rfl rfl jo_152 jf_312_152 (Nat.le_of_ble_eq_true rfl)
theorem p312_1244 (lv : jmL) (st : List jmV) (w : jmW) : rn 312 (1244, lv, st, w) = jq_lda 312 1245 lv st w (jg lv 2) := q_aload_n (jd_of jb_312 dL_law_1244) rfl
theorem p312_1245 (lv : jmL) (st : List jmV) (w : jmW) : rn 312 (1245, lv, st, w) = jq_lda 312 1246 lv st w (jg lv 0) := q_aload_n (jd_of jb_312 dL_law_1245) rfl
theorem p312_1246 (lv : jmL) (st : List jmV) (w : jmW) : rn 312 (1246, lv, st, w) = jq_ldi 312 1248 lv st w (jg lv 4) := q_iload (jd_of jb_312 dL_law_1246)
theorem p312_1248 (lv : jmL) (st : List jmV) (w : jmW) : rn 312 (1248, lv, st, w) = rn 312 (1249, lv, .inl (1) :: st, w) := q_iconst (jd_of jb_312 dL_law_1248)
theorem p312_1249 (lv : jmL) (st : List jmV) (w : jmW) (x y : Int) : rn 312 (1249, lv, .inl y :: .inl x :: st, w) = rn 312 (1250, lv, .inl (x + y) :: st, w) := q_iadd (jd_of jb_312 dL_law_1249)
theorem p312_1250 (lv : jmL) (st : List jmV) (w : jmW) (a : Nat) (j : Int) : rn 312 (1250, lv, .inl j :: jvr a :: st, w) = jq_gr (mS w a) 0 j 312 1251 lv (.inl (mI w a (jix j)) :: st) (w) := q_iald (jd_of jb_312 dL_law_1250)
theorem p312_1251 (lv : jmL) (st : List jmV) (w : jmW) (b : Nat) (x1 : Int) : rn 312 (1251, lv, .inl x1 :: jvr b :: st, w) = jq_s (mS w b) (1, 9, 0) (jq_b (decide (jwd st ≤ 8)) (jq_c 312 1254 lv st (rn 296 (0, [(0, jvr b), (1, .inl x1)], [], w)))) := q_callv (as := [.inl x1]) (rest := st) (jd_of jb_312 dL_law_1251) jo_312 jk_10_179 rfl rfl rfl jo_296 jf_312_296 (Nat.le_of_ble_eq_true rfl)
theorem p312_1254 (lv : jmL) (st : List jmV) (w : jmW) (x y : Int) : rn 312 (1254, lv, .inl y :: .inl x :: st, w) = if jw x = jw y then rn 312 (1590, lv, st, w) else rn 312 (1257, lv, st, w) := q_icmp_eq (jd_of jb_312 dL_law_1254) (by decide)
theorem p312_1257 (lv : jmL) (st : List jmV) (w : jmW) : rn 312 (1257, lv, st, w) = rn 312 (1258, lv, .inl (0) :: st, w) := q_iconst (jd_of jb_312 dL_law_1257)
theorem p312_1258 (lv : jmL) (w : jmW) (x : Int) : rn 312 (1258, lv, [.inl x], w) = jq_b (decide (x = 0 ∨ x = 1)) (some (some (.inl x), w)) := q_zreturn (jd_of jb_312 dL_law_1258) jr_312
theorem p312_1259 (lv : jmL) (st : List jmV) (w : jmW) : rn 312 (1259, lv, st, w) = jq_lda 312 1260 lv st w (jg lv 1) := q_aload_n (jd_of jb_312 dL_law_1259) rfl
theorem p312_1260 (lv : jmL) (st : List jmV) (w : jmW) : rn 312 (1260, lv, st, w) = jq_lda 312 1261 lv st w (jg lv 0) := q_aload_n (jd_of jb_312 dL_law_1260) rfl
theorem p312_1261 (lv : jmL) (st : List jmV) (w : jmW) : rn 312 (1261, lv, st, w) = jq_ldi 312 1263 lv st w (jg lv 4) := q_iload (jd_of jb_312 dL_law_1261)
theorem p312_1263 (lv : jmL) (st : List jmV) (w : jmW) : rn 312 (1263, lv, st, w) = rn 312 (1264, lv, .inl (1) :: st, w) := q_iconst (jd_of jb_312 dL_law_1263)
theorem p312_1264 (lv : jmL) (st : List jmV) (w : jmW) (x y : Int) : rn 312 (1264, lv, .inl y :: .inl x :: st, w) = rn 312 (1265, lv, .inl (x + y) :: st, w) := q_iadd (jd_of jb_312 dL_law_1264)
theorem p312_1265 (lv : jmL) (st : List jmV) (w : jmW) (a : Nat) (j : Int) : rn 312 (1265, lv, .inl j :: jvr a :: st, w) = jq_gr (mS w a) 0 j 312 1266 lv (.inl (mI w a (jix j)) :: st) (w) := q_iald (jd_of jb_312 dL_law_1265)
theorem p312_1266 (lv : jmL) (st : List jmV) (w : jmW) : rn 312 (1266, lv, st, w) = jq_lda 312 1267 lv st w (jg lv 0) := q_aload_n (jd_of jb_312 dL_law_1266) rfl
theorem p312_1267 (lv : jmL) (st : List jmV) (w : jmW) : rn 312 (1267, lv, st, w) = jq_ldi 312 1269 lv st w (jg lv 4) := q_iload (jd_of jb_312 dL_law_1267)
theorem p312_1269 (lv : jmL) (st : List jmV) (w : jmW) : rn 312 (1269, lv, st, w) = rn 312 (1270, lv, .inl (2) :: st, w) := q_iconst (jd_of jb_312 dL_law_1269)
theorem p312_1270 (lv : jmL) (st : List jmV) (w : jmW) (x y : Int) : rn 312 (1270, lv, .inl y :: .inl x :: st, w) = rn 312 (1271, lv, .inl (x + y) :: st, w) := q_iadd (jd_of jb_312 dL_law_1270)
theorem p312_1271 (lv : jmL) (st : List jmV) (w : jmW) (a : Nat) (j : Int) : rn 312 (1271, lv, .inl j :: jvr a :: st, w) = jq_gr (mS w a) 0 j 312 1272 lv (.inl (mI w a (jix j)) :: st) (w) := q_iald (jd_of jb_312 dL_law_1271)
theorem p312_1272 (lv : jmL) (st : List jmV) (w : jmW) (b : Nat) (x1 : Int) (x2 : Int) : rn 312 (1272, lv, .inl x2 :: .inl x1 :: jvr b :: st, w) = jq_s (mS w b) (1, 7, 0) (jq_b (decide (jwd st ≤ 8)) (jq_c 312 1275 lv st (rn 155 (0, [(0, jvr b), (1, .inl x1), (2, .inl x2)], [], w)))) := q_callv (as := [.inl x1, .inl x2]) (rest := st) (jd_of jb_312 dL_law_1272) jo_312 jk_10_180 rfl rfl rfl jo_155 jf_312_155 (Nat.le_of_ble_eq_true rfl)
theorem p312_1275 (lv : jmL) (st : List jmV) (w : jmW) : rn 312 (1275, lv, st, w) = jq_lda 312 1276 lv st w (jg lv 2) := q_aload_n (jd_of jb_312 dL_law_1275) rfl
theorem p312_1276 (lv : jmL) (st : List jmV) (w : jmW) : rn 312 (1276, lv, st, w) = jq_lda 312 1277 lv st w (jg lv 0) := q_aload_n (jd_of jb_312 dL_law_1276) rfl
theorem p312_1277 (lv : jmL) (st : List jmV) (w : jmW) : rn 312 (1277, lv, st, w) = jq_ldi 312 1279 lv st w (jg lv 4) := q_iload (jd_of jb_312 dL_law_1277)
theorem p312_1279 (lv : jmL) (st : List jmV) (w : jmW) : rn 312 (1279, lv, st, w) = rn 312 (1280, lv, .inl (1) :: st, w) := q_iconst (jd_of jb_312 dL_law_1279)
theorem p312_1280 (lv : jmL) (st : List jmV) (w : jmW) (x y : Int) : rn 312 (1280, lv, .inl y :: .inl x :: st, w) = rn 312 (1281, lv, .inl (x + y) :: st, w) := q_iadd (jd_of jb_312 dL_law_1280)
theorem p312_1281 (lv : jmL) (st : List jmV) (w : jmW) (a : Nat) (j : Int) : rn 312 (1281, lv, .inl j :: jvr a :: st, w) = jq_gr (mS w a) 0 j 312 1282 lv (.inl (mI w a (jix j)) :: st) (w) := q_iald (jd_of jb_312 dL_law_1281)
theorem p312_1282 (lv : jmL) (st : List jmV) (w : jmW) : rn 312 (1282, lv, st, w) = jq_lda 312 1283 lv st w (jg lv 0) := q_aload_n (jd_of jb_312 dL_law_1282) rfl
theorem p312_1283 (lv : jmL) (st : List jmV) (w : jmW) : rn 312 (1283, lv, st, w) = jq_ldi 312 1285 lv st w (jg lv 4) := q_iload (jd_of jb_312 dL_law_1283)
theorem p312_1285 (lv : jmL) (st : List jmV) (w : jmW) : rn 312 (1285, lv, st, w) = rn 312 (1286, lv, .inl (2) :: st, w) := q_iconst (jd_of jb_312 dL_law_1285)
theorem p312_1286 (lv : jmL) (st : List jmV) (w : jmW) (x y : Int) : rn 312 (1286, lv, .inl y :: .inl x :: st, w) = rn 312 (1287, lv, .inl (x + y) :: st, w) := q_iadd (jd_of jb_312 dL_law_1286)
theorem p312_1287 (lv : jmL) (st : List jmV) (w : jmW) (a : Nat) (j : Int) : rn 312 (1287, lv, .inl j :: jvr a :: st, w) = jq_gr (mS w a) 0 j 312 1288 lv (.inl (mI w a (jix j)) :: st) (w) := q_iald (jd_of jb_312 dL_law_1287)
theorem p312_1288 (lv : jmL) (st : List jmV) (w : jmW) (b : Nat) (x1 : Int) (x2 : Int) : rn 312 (1288, lv, .inl x2 :: .inl x1 :: jvr b :: st, w) = jq_s (mS w b) (1, 9, 0) (jq_b (decide (jwd st ≤ 8)) (jq_c 312 1291 lv st (rn 299 (0, [(0, jvr b), (1, .inl x1), (2, .inl x2)], [], w)))) := q_callv (as := [.inl x1, .inl x2]) (rest := st) (jd_of jb_312 dL_law_1288) jo_312 jk_10_184 rfl rfl rfl jo_299 jf_312_299 (Nat.le_of_ble_eq_true rfl)
theorem p312_1291 (lv : jmL) (st : List jmV) (w : jmW) (x y : Int) : rn 312 (1291, lv, .inl y :: .inl x :: st, w) = if jw x = jw y then rn 312 (1590, lv, st, w) else rn 312 (1294, lv, st, w) := q_icmp_eq (jd_of jb_312 dL_law_1291) (by decide)
theorem p312_1294 (lv : jmL) (st : List jmV) (w : jmW) : rn 312 (1294, lv, st, w) = rn 312 (1295, lv, .inl (0) :: st, w) := q_iconst (jd_of jb_312 dL_law_1294)
theorem p312_1295 (lv : jmL) (w : jmW) (x : Int) : rn 312 (1295, lv, [.inl x], w) = jq_b (decide (x = 0 ∨ x = 1)) (some (some (.inl x), w)) := q_zreturn (jd_of jb_312 dL_law_1295) jr_312
theorem p312_1296 (lv : jmL) (st : List jmV) (w : jmW) : rn 312 (1296, lv, st, w) = jq_lda 312 1297 lv st w (jg lv 1) := q_aload_n (jd_of jb_312 dL_law_1296) rfl
theorem p312_1297 (lv : jmL) (st : List jmV) (w : jmW) : rn 312 (1297, lv, st, w) = jq_lda 312 1298 lv st w (jg lv 0) := q_aload_n (jd_of jb_312 dL_law_1297) rfl
theorem p312_1298 (lv : jmL) (st : List jmV) (w : jmW) : rn 312 (1298, lv, st, w) = jq_ldi 312 1300 lv st w (jg lv 4) := q_iload (jd_of jb_312 dL_law_1298)
theorem p312_1300 (lv : jmL) (st : List jmV) (w : jmW) : rn 312 (1300, lv, st, w) = rn 312 (1301, lv, .inl (1) :: st, w) := q_iconst (jd_of jb_312 dL_law_1300)
theorem p312_1301 (lv : jmL) (st : List jmV) (w : jmW) (x y : Int) : rn 312 (1301, lv, .inl y :: .inl x :: st, w) = rn 312 (1302, lv, .inl (x + y) :: st, w) := q_iadd (jd_of jb_312 dL_law_1301)
theorem p312_1302 (lv : jmL) (st : List jmV) (w : jmW) (a : Nat) (j : Int) : rn 312 (1302, lv, .inl j :: jvr a :: st, w) = jq_gr (mS w a) 0 j 312 1303 lv (.inl (mI w a (jix j)) :: st) (w) := q_iald (jd_of jb_312 dL_law_1302)
theorem p312_1303 (lv : jmL) (st : List jmV) (w : jmW) (b : Nat) (x1 : Int) : rn 312 (1303, lv, .inl x1 :: jvr b :: st, w) = jq_s (mS w b) (1, 7, 0) (jq_b (decide (jwd st ≤ 8)) (jq_c 312 1306 lv st (rn 156 (0, [(0, jvr b), (1, .inl x1)], [], w)))) := q_callv (as := [.inl x1]) (rest := st) (jd_of jb_312 dL_law_1303) jo_312 jk_10_185 rfl rfl rfl jo_156 jf_312_156 (Nat.le_of_ble_eq_true rfl)
theorem p312_1306 (lv : jmL) (st : List jmV) (w : jmW) : rn 312 (1306, lv, st, w) = jq_lda 312 1307 lv st w (jg lv 2) := q_aload_n (jd_of jb_312 dL_law_1306) rfl
theorem p312_1307 (lv : jmL) (st : List jmV) (w : jmW) : rn 312 (1307, lv, st, w) = jq_lda 312 1308 lv st w (jg lv 0) := q_aload_n (jd_of jb_312 dL_law_1307) rfl
theorem p312_1308 (lv : jmL) (st : List jmV) (w : jmW) : rn 312 (1308, lv, st, w) = jq_ldi 312 1310 lv st w (jg lv 4) := q_iload (jd_of jb_312 dL_law_1308)
theorem p312_1310 (lv : jmL) (st : List jmV) (w : jmW) : rn 312 (1310, lv, st, w) = rn 312 (1311, lv, .inl (1) :: st, w) := q_iconst (jd_of jb_312 dL_law_1310)
theorem p312_1311 (lv : jmL) (st : List jmV) (w : jmW) (x y : Int) : rn 312 (1311, lv, .inl y :: .inl x :: st, w) = rn 312 (1312, lv, .inl (x + y) :: st, w) := q_iadd (jd_of jb_312 dL_law_1311)
theorem p312_1312 (lv : jmL) (st : List jmV) (w : jmW) (a : Nat) (j : Int) : rn 312 (1312, lv, .inl j :: jvr a :: st, w) = jq_gr (mS w a) 0 j 312 1313 lv (.inl (mI w a (jix j)) :: st) (w) := q_iald (jd_of jb_312 dL_law_1312)
theorem p312_1313 (lv : jmL) (st : List jmV) (w : jmW) (b : Nat) (x1 : Int) : rn 312 (1313, lv, .inl x1 :: jvr b :: st, w) = jq_s (mS w b) (1, 9, 0) (jq_b (decide (jwd st ≤ 8)) (jq_c 312 1316 lv st (rn 301 (0, [(0, jvr b), (1, .inl x1)], [], w)))) := q_callv (as := [.inl x1]) (rest := st) (jd_of jb_312 dL_law_1313) jo_312 jk_10_188 rfl rfl rfl jo_301 jf_312_301 (Nat.le_of_ble_eq_true rfl)
theorem p312_1316 (lv : jmL) (st : List jmV) (w : jmW) (x y : Int) : rn 312 (1316, lv, .inl y :: .inl x :: st, w) = if jw x = jw y then rn 312 (1590, lv, st, w) else rn 312 (1319, lv, st, w) := q_icmp_eq (jd_of jb_312 dL_law_1316) (by decide)
theorem p312_1319 (lv : jmL) (st : List jmV) (w : jmW) : rn 312 (1319, lv, st, w) = rn 312 (1320, lv, .inl (0) :: st, w) := q_iconst (jd_of jb_312 dL_law_1319)
theorem p312_1320 (lv : jmL) (w : jmW) (x : Int) : rn 312 (1320, lv, [.inl x], w) = jq_b (decide (x = 0 ∨ x = 1)) (some (some (.inl x), w)) := q_zreturn (jd_of jb_312 dL_law_1320) jr_312
theorem p312_1321 (lv : jmL) (st : List jmV) (w : jmW) : rn 312 (1321, lv, st, w) = jq_lda 312 1322 lv st w (jg lv 1) := q_aload_n (jd_of jb_312 dL_law_1321) rfl
theorem p312_1322 (lv : jmL) (st : List jmV) (w : jmW) : rn 312 (1322, lv, st, w) = jq_lda 312 1323 lv st w (jg lv 0) := q_aload_n (jd_of jb_312 dL_law_1322) rfl
theorem p312_1323 (lv : jmL) (st : List jmV) (w : jmW) : rn 312 (1323, lv, st, w) = jq_ldi 312 1325 lv st w (jg lv 4) := q_iload (jd_of jb_312 dL_law_1323)
theorem p312_1325 (lv : jmL) (st : List jmV) (w : jmW) : rn 312 (1325, lv, st, w) = rn 312 (1326, lv, .inl (1) :: st, w) := q_iconst (jd_of jb_312 dL_law_1325)
theorem p312_1326 (lv : jmL) (st : List jmV) (w : jmW) (x y : Int) : rn 312 (1326, lv, .inl y :: .inl x :: st, w) = rn 312 (1327, lv, .inl (x + y) :: st, w) := q_iadd (jd_of jb_312 dL_law_1326)
theorem p312_1327 (lv : jmL) (st : List jmV) (w : jmW) (a : Nat) (j : Int) : rn 312 (1327, lv, .inl j :: jvr a :: st, w) = jq_gr (mS w a) 0 j 312 1328 lv (.inl (mI w a (jix j)) :: st) (w) := q_iald (jd_of jb_312 dL_law_1327)
theorem p312_1328 (lv : jmL) (st : List jmV) (w : jmW) : rn 312 (1328, lv, st, w) = jq_lda 312 1329 lv st w (jg lv 0) := q_aload_n (jd_of jb_312 dL_law_1328) rfl
theorem p312_1329 (lv : jmL) (st : List jmV) (w : jmW) : rn 312 (1329, lv, st, w) = jq_ldi 312 1331 lv st w (jg lv 4) := q_iload (jd_of jb_312 dL_law_1329)
theorem p312_1331 (lv : jmL) (st : List jmV) (w : jmW) : rn 312 (1331, lv, st, w) = rn 312 (1332, lv, .inl (2) :: st, w) := q_iconst (jd_of jb_312 dL_law_1331)
theorem p312_1332 (lv : jmL) (st : List jmV) (w : jmW) (x y : Int) : rn 312 (1332, lv, .inl y :: .inl x :: st, w) = rn 312 (1333, lv, .inl (x + y) :: st, w) := q_iadd (jd_of jb_312 dL_law_1332)
theorem p312_1333 (lv : jmL) (st : List jmV) (w : jmW) (a : Nat) (j : Int) : rn 312 (1333, lv, .inl j :: jvr a :: st, w) = jq_gr (mS w a) 0 j 312 1334 lv (.inl (mI w a (jix j)) :: st) (w) := q_iald (jd_of jb_312 dL_law_1333)
theorem p312_1334 (lv : jmL) (st : List jmV) (w : jmW) (b : Nat) (x1 : Int) (x2 : Int) : rn 312 (1334, lv, .inl x2 :: .inl x1 :: jvr b :: st, w) = jq_s (mS w b) (1, 7, 0) (jq_b (decide (jwd st ≤ 8)) (jq_c 312 1337 lv st (rn 157 (0, [(0, jvr b), (1, .inl x1), (2, .inl x2)], [], w)))) := q_callv (as := [.inl x1, .inl x2]) (rest := st) (jd_of jb_312 dL_law_1334) jo_312 jk_10_189 rfl rfl rfl jo_157 jf_312_157 (Nat.le_of_ble_eq_true rfl)
theorem p312_1337 (lv : jmL) (st : List jmV) (w : jmW) : rn 312 (1337, lv, st, w) = jq_lda 312 1338 lv st w (jg lv 2) := q_aload_n (jd_of jb_312 dL_law_1337) rfl
theorem p312_1338 (lv : jmL) (st : List jmV) (w : jmW) : rn 312 (1338, lv, st, w) = jq_lda 312 1339 lv st w (jg lv 0) := q_aload_n (jd_of jb_312 dL_law_1338) rfl
theorem p312_1339 (lv : jmL) (st : List jmV) (w : jmW) : rn 312 (1339, lv, st, w) = jq_ldi 312 1341 lv st w (jg lv 4) := q_iload (jd_of jb_312 dL_law_1339)
theorem p312_1341 (lv : jmL) (st : List jmV) (w : jmW) : rn 312 (1341, lv, st, w) = rn 312 (1342, lv, .inl (1) :: st, w) := q_iconst (jd_of jb_312 dL_law_1341)
theorem p312_1342 (lv : jmL) (st : List jmV) (w : jmW) (x y : Int) : rn 312 (1342, lv, .inl y :: .inl x :: st, w) = rn 312 (1343, lv, .inl (x + y) :: st, w) := q_iadd (jd_of jb_312 dL_law_1342)
theorem p312_1343 (lv : jmL) (st : List jmV) (w : jmW) (a : Nat) (j : Int) : rn 312 (1343, lv, .inl j :: jvr a :: st, w) = jq_gr (mS w a) 0 j 312 1344 lv (.inl (mI w a (jix j)) :: st) (w) := q_iald (jd_of jb_312 dL_law_1343)
theorem p312_1344 (lv : jmL) (st : List jmV) (w : jmW) : rn 312 (1344, lv, st, w) = jq_lda 312 1345 lv st w (jg lv 0) := q_aload_n (jd_of jb_312 dL_law_1344) rfl
theorem p312_1345 (lv : jmL) (st : List jmV) (w : jmW) : rn 312 (1345, lv, st, w) = jq_ldi 312 1347 lv st w (jg lv 4) := q_iload (jd_of jb_312 dL_law_1345)
theorem p312_1347 (lv : jmL) (st : List jmV) (w : jmW) : rn 312 (1347, lv, st, w) = rn 312 (1348, lv, .inl (2) :: st, w) := q_iconst (jd_of jb_312 dL_law_1347)
theorem p312_1348 (lv : jmL) (st : List jmV) (w : jmW) (x y : Int) : rn 312 (1348, lv, .inl y :: .inl x :: st, w) = rn 312 (1349, lv, .inl (x + y) :: st, w) := q_iadd (jd_of jb_312 dL_law_1348)
theorem p312_1349 (lv : jmL) (st : List jmV) (w : jmW) (a : Nat) (j : Int) : rn 312 (1349, lv, .inl j :: jvr a :: st, w) = jq_gr (mS w a) 0 j 312 1350 lv (.inl (mI w a (jix j)) :: st) (w) := q_iald (jd_of jb_312 dL_law_1349)
theorem p312_1350 (lv : jmL) (st : List jmV) (w : jmW) (b : Nat) (x1 : Int) (x2 : Int) : rn 312 (1350, lv, .inl x2 :: .inl x1 :: jvr b :: st, w) = jq_s (mS w b) (1, 9, 0) (jq_b (decide (jwd st ≤ 8)) (jq_c 312 1353 lv st (rn 302 (0, [(0, jvr b), (1, .inl x1), (2, .inl x2)], [], w)))) := q_callv (as := [.inl x1, .inl x2]) (rest := st) (jd_of jb_312 dL_law_1350) jo_312 jk_10_192 rfl rfl rfl jo_302 jf_312_302 (Nat.le_of_ble_eq_true rfl)
theorem p312_1353 (lv : jmL) (st : List jmV) (w : jmW) (x y : Int) : rn 312 (1353, lv, .inl y :: .inl x :: st, w) = if jw x = jw y then rn 312 (1590, lv, st, w) else rn 312 (1356, lv, st, w) := q_icmp_eq (jd_of jb_312 dL_law_1353) (by decide)
theorem p312_1356 (lv : jmL) (st : List jmV) (w : jmW) : rn 312 (1356, lv, st, w) = rn 312 (1357, lv, .inl (0) :: st, w) := q_iconst (jd_of jb_312 dL_law_1356)
theorem p312_1357 (lv : jmL) (w : jmW) (x : Int) : rn 312 (1357, lv, [.inl x], w) = jq_b (decide (x = 0 ∨ x = 1)) (some (some (.inl x), w)) := q_zreturn (jd_of jb_312 dL_law_1357) jr_312
theorem p312_1358 (lv : jmL) (st : List jmV) (w : jmW) : rn 312 (1358, lv, st, w) = jq_lda 312 1359 lv st w (jg lv 1) := q_aload_n (jd_of jb_312 dL_law_1358) rfl
theorem p312_1359 (lv : jmL) (st : List jmV) (w : jmW) : rn 312 (1359, lv, st, w) = jq_lda 312 1360 lv st w (jg lv 0) := q_aload_n (jd_of jb_312 dL_law_1359) rfl
theorem p312_1360 (lv : jmL) (st : List jmV) (w : jmW) : rn 312 (1360, lv, st, w) = jq_ldi 312 1362 lv st w (jg lv 4) := q_iload (jd_of jb_312 dL_law_1360)
theorem p312_1362 (lv : jmL) (st : List jmV) (w : jmW) : rn 312 (1362, lv, st, w) = rn 312 (1363, lv, .inl (1) :: st, w) := q_iconst (jd_of jb_312 dL_law_1362)
theorem p312_1363 (lv : jmL) (st : List jmV) (w : jmW) (x y : Int) : rn 312 (1363, lv, .inl y :: .inl x :: st, w) = rn 312 (1364, lv, .inl (x + y) :: st, w) := q_iadd (jd_of jb_312 dL_law_1363)
theorem p312_1364 (lv : jmL) (st : List jmV) (w : jmW) (a : Nat) (j : Int) : rn 312 (1364, lv, .inl j :: jvr a :: st, w) = jq_gr (mS w a) 0 j 312 1365 lv (.inl (mI w a (jix j)) :: st) (w) := q_iald (jd_of jb_312 dL_law_1364)
theorem p312_1365 (lv : jmL) (st : List jmV) (w : jmW) (b : Nat) (x1 : Int) : rn 312 (1365, lv, .inl x1 :: jvr b :: st, w) = jq_s (mS w b) (1, 7, 0) (jq_b (decide (jwd st ≤ 8)) (jq_c 312 1368 lv st (rn 158 (0, [(0, jvr b), (1, .inl x1)], [], w)))) := q_callv (as := [.inl x1]) (rest := st) (jd_of jb_312 dL_law_1365) jo_312 jk_10_193 rfl rfl rfl jo_158 jf_312_158 (Nat.le_of_ble_eq_true rfl)
theorem p312_1368 (lv : jmL) (st : List jmV) (w : jmW) : rn 312 (1368, lv, st, w) = jq_lda 312 1369 lv st w (jg lv 2) := q_aload_n (jd_of jb_312 dL_law_1368) rfl
theorem p312_1369 (lv : jmL) (st : List jmV) (w : jmW) : rn 312 (1369, lv, st, w) = jq_lda 312 1370 lv st w (jg lv 0) := q_aload_n (jd_of jb_312 dL_law_1369) rfl
theorem p312_1370 (lv : jmL) (st : List jmV) (w : jmW) : rn 312 (1370, lv, st, w) = jq_ldi 312 1372 lv st w (jg lv 4) := q_iload (jd_of jb_312 dL_law_1370)
theorem p312_1372 (lv : jmL) (st : List jmV) (w : jmW) : rn 312 (1372, lv, st, w) = rn 312 (1373, lv, .inl (1) :: st, w) := q_iconst (jd_of jb_312 dL_law_1372)
theorem p312_1373 (lv : jmL) (st : List jmV) (w : jmW) (x y : Int) : rn 312 (1373, lv, .inl y :: .inl x :: st, w) = rn 312 (1374, lv, .inl (x + y) :: st, w) := q_iadd (jd_of jb_312 dL_law_1373)
theorem p312_1374 (lv : jmL) (st : List jmV) (w : jmW) (a : Nat) (j : Int) : rn 312 (1374, lv, .inl j :: jvr a :: st, w) = jq_gr (mS w a) 0 j 312 1375 lv (.inl (mI w a (jix j)) :: st) (w) := q_iald (jd_of jb_312 dL_law_1374)
theorem p312_1375 (lv : jmL) (st : List jmV) (w : jmW) (b : Nat) (x1 : Int) : rn 312 (1375, lv, .inl x1 :: jvr b :: st, w) = jq_s (mS w b) (1, 9, 0) (jq_b (decide (jwd st ≤ 8)) (jq_c 312 1378 lv st (rn 303 (0, [(0, jvr b), (1, .inl x1)], [], w)))) := q_callv (as := [.inl x1]) (rest := st) (jd_of jb_312 dL_law_1375) jo_312 jk_10_196 rfl rfl rfl jo_303 jf_312_303 (Nat.le_of_ble_eq_true rfl)
theorem p312_1378 (lv : jmL) (st : List jmV) (w : jmW) (x y : Int) : rn 312 (1378, lv, .inl y :: .inl x :: st, w) = if jw x = jw y then rn 312 (1590, lv, st, w) else rn 312 (1381, lv, st, w) := q_icmp_eq (jd_of jb_312 dL_law_1378) (by decide)
theorem p312_1381 (lv : jmL) (st : List jmV) (w : jmW) : rn 312 (1381, lv, st, w) = rn 312 (1382, lv, .inl (0) :: st, w) := q_iconst (jd_of jb_312 dL_law_1381)
theorem p312_1382 (lv : jmL) (w : jmW) (x : Int) : rn 312 (1382, lv, [.inl x], w) = jq_b (decide (x = 0 ∨ x = 1)) (some (some (.inl x), w)) := q_zreturn (jd_of jb_312 dL_law_1382) jr_312
theorem p312_1383 (lv : jmL) (st : List jmV) (w : jmW) : rn 312 (1383, lv, st, w) = jq_lda 312 1384 lv st w (jg lv 1) := q_aload_n (jd_of jb_312 dL_law_1383) rfl
theorem p312_1384 (lv : jmL) (st : List jmV) (w : jmW) (b : Nat) : rn 312 (1384, lv, jvr b :: st, w) = jq_s (mS w b) (1, 7, 0) (jq_b (decide (jwd st ≤ 8)) (jq_c 312 1387 lv st (rn 159 (0, [(0, jvr b)], [], w)))) := q_callv (as := []) (rest := st) (jd_of jb_312 dL_law_1384) jo_312 jk_10_197 rfl rfl rfl jo_159 jf_312_159 (Nat.le_of_ble_eq_true rfl)
theorem p312_1387 (lv : jmL) (st : List jmV) (w : jmW) : rn 312 (1387, lv, st, w) = jq_lda 312 1388 lv st w (jg lv 2) := q_aload_n (jd_of jb_312 dL_law_1387) rfl
theorem p312_1388 (lv : jmL) (st : List jmV) (w : jmW) (b : Nat) : rn 312 (1388, lv, jvr b :: st, w) = jq_s (mS w b) (1, 9, 0) (jq_b (decide (jwd st ≤ 8)) (jq_c 312 1391 lv st (rn 304 (0, [(0, jvr b)], [], w)))) := q_callv (as := []) (rest := st) (jd_of jb_312 dL_law_1388) jo_312 jk_10_201 rfl rfl rfl jo_304 jf_312_304 (Nat.le_of_ble_eq_true rfl)
theorem p312_1391 (lv : jmL) (st : List jmV) (w : jmW) (x y : Int) : rn 312 (1391, lv, .inl y :: .inl x :: st, w) = if jw x = jw y then rn 312 (1590, lv, st, w) else rn 312 (1394, lv, st, w) := q_icmp_eq (jd_of jb_312 dL_law_1391) (by decide)
theorem p312_1394 (lv : jmL) (st : List jmV) (w : jmW) : rn 312 (1394, lv, st, w) = rn 312 (1395, lv, .inl (0) :: st, w) := q_iconst (jd_of jb_312 dL_law_1394)
theorem p312_1395 (lv : jmL) (w : jmW) (x : Int) : rn 312 (1395, lv, [.inl x], w) = jq_b (decide (x = 0 ∨ x = 1)) (some (some (.inl x), w)) := q_zreturn (jd_of jb_312 dL_law_1395) jr_312
theorem p312_1396 (lv : jmL) (st : List jmV) (w : jmW) : rn 312 (1396, lv, st, w) = jq_lda 312 1397 lv st w (jg lv 1) := q_aload_n (jd_of jb_312 dL_law_1396) rfl
theorem p312_1397 (lv : jmL) (st : List jmV) (w : jmW) (b : Nat) : rn 312 (1397, lv, jvr b :: st, w) = jq_s (mS w b) (1, 7, 0) (jq_b (decide (jwd st ≤ 8)) (jq_c 312 1400 lv st (rn 162 (0, [(0, jvr b)], [], w)))) := q_callv (as := []) (rest := st) (jd_of jb_312 dL_law_1397) jo_312 jk_10_202 rfl rfl rfl jo_162 jf_312_162 (Nat.le_of_ble_eq_true rfl)
theorem p312_1400 (lv : jmL) (st : List jmV) (w : jmW) : rn 312 (1400, lv, st, w) = jq_lda 312 1401 lv st w (jg lv 2) := q_aload_n (jd_of jb_312 dL_law_1400) rfl
theorem p312_1401 (lv : jmL) (st : List jmV) (w : jmW) (b : Nat) : rn 312 (1401, lv, jvr b :: st, w) = jq_s (mS w b) (1, 9, 0) (jq_b (decide (jwd st ≤ 8)) (jq_c 312 1404 lv st (rn 305 (0, [(0, jvr b)], [], w)))) := q_callv (as := []) (rest := st) (jd_of jb_312 dL_law_1401) jo_312 jk_10_205 rfl rfl rfl jo_305 jf_312_305 (Nat.le_of_ble_eq_true rfl)
theorem p312_1404 (lv : jmL) (st : List jmV) (w : jmW) (x y : Int) : rn 312 (1404, lv, .inl y :: .inl x :: st, w) = if jw x = jw y then rn 312 (1590, lv, st, w) else rn 312 (1407, lv, st, w) := q_icmp_eq (jd_of jb_312 dL_law_1404) (by decide)
theorem p312_1407 (lv : jmL) (st : List jmV) (w : jmW) : rn 312 (1407, lv, st, w) = rn 312 (1408, lv, .inl (0) :: st, w) := q_iconst (jd_of jb_312 dL_law_1407)
theorem p312_1408 (lv : jmL) (w : jmW) (x : Int) : rn 312 (1408, lv, [.inl x], w) = jq_b (decide (x = 0 ∨ x = 1)) (some (some (.inl x), w)) := q_zreturn (jd_of jb_312 dL_law_1408) jr_312
theorem p312_1409 (lv : jmL) (st : List jmV) (w : jmW) : rn 312 (1409, lv, st, w) = jq_lda 312 1410 lv st w (jg lv 1) := q_aload_n (jd_of jb_312 dL_law_1409) rfl
theorem p312_1410 (lv : jmL) (st : List jmV) (w : jmW) : rn 312 (1410, lv, st, w) = jq_lda 312 1411 lv st w (jg lv 0) := q_aload_n (jd_of jb_312 dL_law_1410) rfl
theorem p312_1411 (lv : jmL) (st : List jmV) (w : jmW) : rn 312 (1411, lv, st, w) = jq_ldi 312 1413 lv st w (jg lv 4) := q_iload (jd_of jb_312 dL_law_1411)
theorem p312_1413 (lv : jmL) (st : List jmV) (w : jmW) : rn 312 (1413, lv, st, w) = rn 312 (1414, lv, .inl (1) :: st, w) := q_iconst (jd_of jb_312 dL_law_1413)
theorem p312_1414 (lv : jmL) (st : List jmV) (w : jmW) (x y : Int) : rn 312 (1414, lv, .inl y :: .inl x :: st, w) = rn 312 (1415, lv, .inl (x + y) :: st, w) := q_iadd (jd_of jb_312 dL_law_1414)
theorem p312_1415 (lv : jmL) (st : List jmV) (w : jmW) (a : Nat) (j : Int) : rn 312 (1415, lv, .inl j :: jvr a :: st, w) = jq_gr (mS w a) 0 j 312 1416 lv (.inl (mI w a (jix j)) :: st) (w) := q_iald (jd_of jb_312 dL_law_1415)
theorem p312_1416 (lv : jmL) (st : List jmV) (w : jmW) (b : Nat) (x1 : Int) : rn 312 (1416, lv, .inl x1 :: jvr b :: st, w) = jq_s (mS w b) (1, 7, 0) (jq_b (decide (jwd st ≤ 8)) (jq_c 312 1419 lv st (rn 164 (0, [(0, jvr b), (1, .inl x1)], [], w)))) := q_callv (as := [.inl x1]) (rest := st) (jd_of jb_312 dL_law_1416) jo_312 jk_10_206 rfl rfl rfl jo_164 jf_312_164 (Nat.le_of_ble_eq_true rfl)
theorem p312_1419 (lv : jmL) (st : List jmV) (w : jmW) : rn 312 (1419, lv, st, w) = jq_lda 312 1420 lv st w (jg lv 2) := q_aload_n (jd_of jb_312 dL_law_1419) rfl
theorem p312_1420 (lv : jmL) (st : List jmV) (w : jmW) : rn 312 (1420, lv, st, w) = jq_lda 312 1421 lv st w (jg lv 0) := q_aload_n (jd_of jb_312 dL_law_1420) rfl
theorem p312_1421 (lv : jmL) (st : List jmV) (w : jmW) : rn 312 (1421, lv, st, w) = jq_ldi 312 1423 lv st w (jg lv 4) := q_iload (jd_of jb_312 dL_law_1421)
theorem p312_1423 (lv : jmL) (st : List jmV) (w : jmW) : rn 312 (1423, lv, st, w) = rn 312 (1424, lv, .inl (1) :: st, w) := q_iconst (jd_of jb_312 dL_law_1423)
theorem p312_1424 (lv : jmL) (st : List jmV) (w : jmW) (x y : Int) : rn 312 (1424, lv, .inl y :: .inl x :: st, w) = rn 312 (1425, lv, .inl (x + y) :: st, w) := q_iadd (jd_of jb_312 dL_law_1424)
theorem p312_1425 (lv : jmL) (st : List jmV) (w : jmW) (a : Nat) (j : Int) : rn 312 (1425, lv, .inl j :: jvr a :: st, w) = jq_gr (mS w a) 0 j 312 1426 lv (.inl (mI w a (jix j)) :: st) (w) := q_iald (jd_of jb_312 dL_law_1425)
theorem p312_1426 (lv : jmL) (st : List jmV) (w : jmW) (b : Nat) (x1 : Int) : rn 312 (1426, lv, .inl x1 :: jvr b :: st, w) = jq_s (mS w b) (1, 9, 0) (jq_b (decide (jwd st ≤ 8)) (jq_c 312 1429 lv st (rn 306 (0, [(0, jvr b), (1, .inl x1)], [], w)))) := q_callv (as := [.inl x1]) (rest := st) (jd_of jb_312 dL_law_1426) jo_312 jk_10_209 rfl rfl rfl jo_306 jf_312_306 (Nat.le_of_ble_eq_true rfl)
theorem p312_1429 (lv : jmL) (st : List jmV) (w : jmW) (x y : Int) : rn 312 (1429, lv, .inl y :: .inl x :: st, w) = if jw x = jw y then rn 312 (1590, lv, st, w) else rn 312 (1432, lv, st, w) := q_icmp_eq (jd_of jb_312 dL_law_1429) (by decide)
theorem p312_1432 (lv : jmL) (st : List jmV) (w : jmW) : rn 312 (1432, lv, st, w) = rn 312 (1433, lv, .inl (0) :: st, w) := q_iconst (jd_of jb_312 dL_law_1432)
theorem p312_1433 (lv : jmL) (w : jmW) (x : Int) : rn 312 (1433, lv, [.inl x], w) = jq_b (decide (x = 0 ∨ x = 1)) (some (some (.inl x), w)) := q_zreturn (jd_of jb_312 dL_law_1433) jr_312
theorem p312_1434 (lv : jmL) (st : List jmV) (w : jmW) : rn 312 (1434, lv, st, w) = jq_lda 312 1435 lv st w (jg lv 1) := q_aload_n (jd_of jb_312 dL_law_1434) rfl
theorem p312_1435 (lv : jmL) (st : List jmV) (w : jmW) : rn 312 (1435, lv, st, w) = jq_lda 312 1436 lv st w (jg lv 0) := q_aload_n (jd_of jb_312 dL_law_1435) rfl
theorem p312_1436 (lv : jmL) (st : List jmV) (w : jmW) : rn 312 (1436, lv, st, w) = jq_ldi 312 1438 lv st w (jg lv 4) := q_iload (jd_of jb_312 dL_law_1436)
theorem p312_1438 (lv : jmL) (st : List jmV) (w : jmW) : rn 312 (1438, lv, st, w) = rn 312 (1439, lv, .inl (1) :: st, w) := q_iconst (jd_of jb_312 dL_law_1438)
theorem p312_1439 (lv : jmL) (st : List jmV) (w : jmW) (x y : Int) : rn 312 (1439, lv, .inl y :: .inl x :: st, w) = rn 312 (1440, lv, .inl (x + y) :: st, w) := q_iadd (jd_of jb_312 dL_law_1439)
theorem p312_1440 (lv : jmL) (st : List jmV) (w : jmW) (a : Nat) (j : Int) : rn 312 (1440, lv, .inl j :: jvr a :: st, w) = jq_gr (mS w a) 0 j 312 1441 lv (.inl (mI w a (jix j)) :: st) (w) := q_iald (jd_of jb_312 dL_law_1440)
theorem p312_1441 (lv : jmL) (st : List jmV) (w : jmW) : rn 312 (1441, lv, st, w) = jq_lda 312 1442 lv st w (jg lv 0) := q_aload_n (jd_of jb_312 dL_law_1441) rfl
theorem p312_1442 (lv : jmL) (st : List jmV) (w : jmW) : rn 312 (1442, lv, st, w) = jq_ldi 312 1444 lv st w (jg lv 4) := q_iload (jd_of jb_312 dL_law_1442)
theorem p312_1444 (lv : jmL) (st : List jmV) (w : jmW) : rn 312 (1444, lv, st, w) = rn 312 (1445, lv, .inl (2) :: st, w) := q_iconst (jd_of jb_312 dL_law_1444)
theorem p312_1445 (lv : jmL) (st : List jmV) (w : jmW) (x y : Int) : rn 312 (1445, lv, .inl y :: .inl x :: st, w) = rn 312 (1446, lv, .inl (x + y) :: st, w) := q_iadd (jd_of jb_312 dL_law_1445)
theorem p312_1446 (lv : jmL) (st : List jmV) (w : jmW) (a : Nat) (j : Int) : rn 312 (1446, lv, .inl j :: jvr a :: st, w) = jq_gr (mS w a) 0 j 312 1447 lv (.inl (mI w a (jix j)) :: st) (w) := q_iald (jd_of jb_312 dL_law_1446)
theorem p312_1447 (lv : jmL) (st : List jmV) (w : jmW) (b : Nat) (x1 : Int) (x2 : Int) : rn 312 (1447, lv, .inl x2 :: .inl x1 :: jvr b :: st, w) = jq_s (mS w b) (1, 7, 0) (jq_b (decide (jwd st ≤ 8)) (jq_c 312 1450 lv st (rn 165 (0, [(0, jvr b), (1, .inl x1), (2, .inl x2)], [], w)))) := q_callv (as := [.inl x1, .inl x2]) (rest := st) (jd_of jb_312 dL_law_1447) jo_312 jk_10_210 rfl rfl rfl jo_165 jf_312_165 (Nat.le_of_ble_eq_true rfl)
theorem p312_1450 (lv : jmL) (st : List jmV) (w : jmW) : rn 312 (1450, lv, st, w) = jq_lda 312 1451 lv st w (jg lv 2) := q_aload_n (jd_of jb_312 dL_law_1450) rfl
theorem p312_1451 (lv : jmL) (st : List jmV) (w : jmW) : rn 312 (1451, lv, st, w) = jq_lda 312 1452 lv st w (jg lv 0) := q_aload_n (jd_of jb_312 dL_law_1451) rfl
theorem p312_1452 (lv : jmL) (st : List jmV) (w : jmW) : rn 312 (1452, lv, st, w) = jq_ldi 312 1454 lv st w (jg lv 4) := q_iload (jd_of jb_312 dL_law_1452)
theorem p312_1454 (lv : jmL) (st : List jmV) (w : jmW) : rn 312 (1454, lv, st, w) = rn 312 (1455, lv, .inl (1) :: st, w) := q_iconst (jd_of jb_312 dL_law_1454)
theorem p312_1455 (lv : jmL) (st : List jmV) (w : jmW) (x y : Int) : rn 312 (1455, lv, .inl y :: .inl x :: st, w) = rn 312 (1456, lv, .inl (x + y) :: st, w) := q_iadd (jd_of jb_312 dL_law_1455)
theorem p312_1456 (lv : jmL) (st : List jmV) (w : jmW) (a : Nat) (j : Int) : rn 312 (1456, lv, .inl j :: jvr a :: st, w) = jq_gr (mS w a) 0 j 312 1457 lv (.inl (mI w a (jix j)) :: st) (w) := q_iald (jd_of jb_312 dL_law_1456)
theorem p312_1457 (lv : jmL) (st : List jmV) (w : jmW) : rn 312 (1457, lv, st, w) = jq_lda 312 1458 lv st w (jg lv 0) := q_aload_n (jd_of jb_312 dL_law_1457) rfl
theorem p312_1458 (lv : jmL) (st : List jmV) (w : jmW) : rn 312 (1458, lv, st, w) = jq_ldi 312 1460 lv st w (jg lv 4) := q_iload (jd_of jb_312 dL_law_1458)
theorem p312_1460 (lv : jmL) (st : List jmV) (w : jmW) : rn 312 (1460, lv, st, w) = rn 312 (1461, lv, .inl (2) :: st, w) := q_iconst (jd_of jb_312 dL_law_1460)
theorem p312_1461 (lv : jmL) (st : List jmV) (w : jmW) (x y : Int) : rn 312 (1461, lv, .inl y :: .inl x :: st, w) = rn 312 (1462, lv, .inl (x + y) :: st, w) := q_iadd (jd_of jb_312 dL_law_1461)
theorem p312_1462 (lv : jmL) (st : List jmV) (w : jmW) (a : Nat) (j : Int) : rn 312 (1462, lv, .inl j :: jvr a :: st, w) = jq_gr (mS w a) 0 j 312 1463 lv (.inl (mI w a (jix j)) :: st) (w) := q_iald (jd_of jb_312 dL_law_1462)
theorem p312_1463 (lv : jmL) (st : List jmV) (w : jmW) (b : Nat) (x1 : Int) (x2 : Int) : rn 312 (1463, lv, .inl x2 :: .inl x1 :: jvr b :: st, w) = jq_s (mS w b) (1, 9, 0) (jq_b (decide (jwd st ≤ 8)) (jq_c 312 1466 lv st (rn 307 (0, [(0, jvr b), (1, .inl x1), (2, .inl x2)], [], w)))) := q_callv (as := [.inl x1, .inl x2]) (rest := st) (jd_of jb_312 dL_law_1463) jo_312 jk_10_213 rfl rfl rfl jo_307 jf_312_307 (Nat.le_of_ble_eq_true rfl)
theorem p312_1466 (lv : jmL) (st : List jmV) (w : jmW) (x y : Int) : rn 312 (1466, lv, .inl y :: .inl x :: st, w) = if jw x = jw y then rn 312 (1590, lv, st, w) else rn 312 (1469, lv, st, w) := q_icmp_eq (jd_of jb_312 dL_law_1466) (by decide)
theorem p312_1469 (lv : jmL) (st : List jmV) (w : jmW) : rn 312 (1469, lv, st, w) = rn 312 (1470, lv, .inl (0) :: st, w) := q_iconst (jd_of jb_312 dL_law_1469)
theorem p312_1470 (lv : jmL) (w : jmW) (x : Int) : rn 312 (1470, lv, [.inl x], w) = jq_b (decide (x = 0 ∨ x = 1)) (some (some (.inl x), w)) := q_zreturn (jd_of jb_312 dL_law_1470) jr_312
theorem p312_1471 (lv : jmL) (st : List jmV) (w : jmW) : rn 312 (1471, lv, st, w) = jq_lda 312 1472 lv st w (jg lv 1) := q_aload_n (jd_of jb_312 dL_law_1471) rfl
theorem p312_1472 (lv : jmL) (st : List jmV) (w : jmW) : rn 312 (1472, lv, st, w) = jq_lda 312 1473 lv st w (jg lv 0) := q_aload_n (jd_of jb_312 dL_law_1472) rfl
theorem p312_1473 (lv : jmL) (st : List jmV) (w : jmW) : rn 312 (1473, lv, st, w) = jq_ldi 312 1475 lv st w (jg lv 4) := q_iload (jd_of jb_312 dL_law_1473)
theorem p312_1475 (lv : jmL) (st : List jmV) (w : jmW) : rn 312 (1475, lv, st, w) = rn 312 (1476, lv, .inl (1) :: st, w) := q_iconst (jd_of jb_312 dL_law_1475)
theorem p312_1476 (lv : jmL) (st : List jmV) (w : jmW) (x y : Int) : rn 312 (1476, lv, .inl y :: .inl x :: st, w) = rn 312 (1477, lv, .inl (x + y) :: st, w) := q_iadd (jd_of jb_312 dL_law_1476)
theorem p312_1477 (lv : jmL) (st : List jmV) (w : jmW) (a : Nat) (j : Int) : rn 312 (1477, lv, .inl j :: jvr a :: st, w) = jq_gr (mS w a) 0 j 312 1478 lv (.inl (mI w a (jix j)) :: st) (w) := q_iald (jd_of jb_312 dL_law_1477)
theorem p312_1478 (lv : jmL) (st : List jmV) (w : jmW) (b : Nat) (x1 : Int) : rn 312 (1478, lv, .inl x1 :: jvr b :: st, w) = jq_s (mS w b) (1, 7, 0) (jq_b (decide (jwd st ≤ 8)) (jq_c 312 1481 lv st (rn 166 (0, [(0, jvr b), (1, .inl x1)], [], w)))) := q_callv (as := [.inl x1]) (rest := st) (jd_of jb_312 dL_law_1478) jo_312 jk_10_214 rfl rfl rfl jo_166 jf_312_166 (Nat.le_of_ble_eq_true rfl)
theorem p312_1481 (lv : jmL) (st : List jmV) (w : jmW) : rn 312 (1481, lv, st, w) = jq_lda 312 1482 lv st w (jg lv 2) := q_aload_n (jd_of jb_312 dL_law_1481) rfl
theorem p312_1482 (lv : jmL) (st : List jmV) (w : jmW) : rn 312 (1482, lv, st, w) = jq_lda 312 1483 lv st w (jg lv 0) := q_aload_n (jd_of jb_312 dL_law_1482) rfl
theorem p312_1483 (lv : jmL) (st : List jmV) (w : jmW) : rn 312 (1483, lv, st, w) = jq_ldi 312 1485 lv st w (jg lv 4) := q_iload (jd_of jb_312 dL_law_1483)
theorem p312_1485 (lv : jmL) (st : List jmV) (w : jmW) : rn 312 (1485, lv, st, w) = rn 312 (1486, lv, .inl (1) :: st, w) := q_iconst (jd_of jb_312 dL_law_1485)
theorem p312_1486 (lv : jmL) (st : List jmV) (w : jmW) (x y : Int) : rn 312 (1486, lv, .inl y :: .inl x :: st, w) = rn 312 (1487, lv, .inl (x + y) :: st, w) := q_iadd (jd_of jb_312 dL_law_1486)
theorem p312_1487 (lv : jmL) (st : List jmV) (w : jmW) (a : Nat) (j : Int) : rn 312 (1487, lv, .inl j :: jvr a :: st, w) = jq_gr (mS w a) 0 j 312 1488 lv (.inl (mI w a (jix j)) :: st) (w) := q_iald (jd_of jb_312 dL_law_1487)
theorem p312_1488 (lv : jmL) (st : List jmV) (w : jmW) (b : Nat) (x1 : Int) : rn 312 (1488, lv, .inl x1 :: jvr b :: st, w) = jq_s (mS w b) (1, 9, 0) (jq_b (decide (jwd st ≤ 8)) (jq_c 312 1491 lv st (rn 308 (0, [(0, jvr b), (1, .inl x1)], [], w)))) := q_callv (as := [.inl x1]) (rest := st) (jd_of jb_312 dL_law_1488) jo_312 jk_10_217 rfl rfl rfl jo_308 jf_312_308 (Nat.le_of_ble_eq_true rfl)
theorem p312_1491 (lv : jmL) (st : List jmV) (w : jmW) (x y : Int) : rn 312 (1491, lv, .inl y :: .inl x :: st, w) = if jw x = jw y then rn 312 (1590, lv, st, w) else rn 312 (1494, lv, st, w) := q_icmp_eq (jd_of jb_312 dL_law_1491) (by decide)
theorem p312_1494 (lv : jmL) (st : List jmV) (w : jmW) : rn 312 (1494, lv, st, w) = rn 312 (1495, lv, .inl (0) :: st, w) := q_iconst (jd_of jb_312 dL_law_1494)
theorem p312_1495 (lv : jmL) (w : jmW) (x : Int) : rn 312 (1495, lv, [.inl x], w) = jq_b (decide (x = 0 ∨ x = 1)) (some (some (.inl x), w)) := q_zreturn (jd_of jb_312 dL_law_1495) jr_312
theorem p312_1496 (lv : jmL) (st : List jmV) (w : jmW) : rn 312 (1496, lv, st, w) = jq_lda 312 1497 lv st w (jg lv 1) := q_aload_n (jd_of jb_312 dL_law_1496) rfl
theorem p312_1497 (lv : jmL) (st : List jmV) (w : jmW) : rn 312 (1497, lv, st, w) = jq_lda 312 1498 lv st w (jg lv 0) := q_aload_n (jd_of jb_312 dL_law_1497) rfl
theorem p312_1498 (lv : jmL) (st : List jmV) (w : jmW) : rn 312 (1498, lv, st, w) = jq_ldi 312 1500 lv st w (jg lv 4) := q_iload (jd_of jb_312 dL_law_1498)
theorem p312_1500 (lv : jmL) (st : List jmV) (w : jmW) : rn 312 (1500, lv, st, w) = rn 312 (1501, lv, .inl (1) :: st, w) := q_iconst (jd_of jb_312 dL_law_1500)
theorem p312_1501 (lv : jmL) (st : List jmV) (w : jmW) (x y : Int) : rn 312 (1501, lv, .inl y :: .inl x :: st, w) = rn 312 (1502, lv, .inl (x + y) :: st, w) := q_iadd (jd_of jb_312 dL_law_1501)
theorem p312_1502 (lv : jmL) (st : List jmV) (w : jmW) (a : Nat) (j : Int) : rn 312 (1502, lv, .inl j :: jvr a :: st, w) = jq_gr (mS w a) 0 j 312 1503 lv (.inl (mI w a (jix j)) :: st) (w) := q_iald (jd_of jb_312 dL_law_1502)
theorem p312_1503 (lv : jmL) (st : List jmV) (w : jmW) : rn 312 (1503, lv, st, w) = jq_lda 312 1504 lv st w (jg lv 3) := q_aload_n (jd_of jb_312 dL_law_1503) rfl
theorem p312_1507 (lv : jmL) (st : List jmV) (w : jmW) (x : Int) : rn 312 (1507, lv, .inl x :: st, w) = rn 312 (1509, js lv 5 (.inl x), st, w) := q_istore (jd_of jb_312 dL_law_1507) (by rw [jm_312]; decide)
theorem p312_1509 (lv : jmL) (st : List jmV) (w : jmW) : rn 312 (1509, lv, st, w) = jq_lda 312 1510 lv st w (jg lv 2) := q_aload_n (jd_of jb_312 dL_law_1509) rfl
theorem p312_1510 (lv : jmL) (st : List jmV) (w : jmW) : rn 312 (1510, lv, st, w) = jq_lda 312 1511 lv st w (jg lv 0) := q_aload_n (jd_of jb_312 dL_law_1510) rfl
theorem p312_1511 (lv : jmL) (st : List jmV) (w : jmW) : rn 312 (1511, lv, st, w) = jq_ldi 312 1513 lv st w (jg lv 4) := q_iload (jd_of jb_312 dL_law_1511)
theorem p312_1513 (lv : jmL) (st : List jmV) (w : jmW) : rn 312 (1513, lv, st, w) = rn 312 (1514, lv, .inl (1) :: st, w) := q_iconst (jd_of jb_312 dL_law_1513)
theorem p312_1514 (lv : jmL) (st : List jmV) (w : jmW) (x y : Int) : rn 312 (1514, lv, .inl y :: .inl x :: st, w) = rn 312 (1515, lv, .inl (x + y) :: st, w) := q_iadd (jd_of jb_312 dL_law_1514)
theorem p312_1515 (lv : jmL) (st : List jmV) (w : jmW) (a : Nat) (j : Int) : rn 312 (1515, lv, .inl j :: jvr a :: st, w) = jq_gr (mS w a) 0 j 312 1516 lv (.inl (mI w a (jix j)) :: st) (w) := q_iald (jd_of jb_312 dL_law_1515)
theorem p312_1516 (lv : jmL) (st : List jmV) (w : jmW) (b : Nat) (x1 : Int) : rn 312 (1516, lv, .inl x1 :: jvr b :: st, w) = jq_s (mS w b) (1, 9, 0) (jq_b (decide (jwd st ≤ 8)) (jq_c 312 1519 lv st (rn 309 (0, [(0, jvr b), (1, .inl x1)], [], w)))) := q_callv (as := [.inl x1]) (rest := st) (jd_of jb_312 dL_law_1516) jo_312 jk_10_223 rfl rfl rfl jo_309 jf_312_309 (Nat.le_of_ble_eq_true rfl)
theorem p312_1519 (lv : jmL) (st : List jmV) (w : jmW) (x : Int) : rn 312 (1519, lv, .inl x :: st, w) = rn 312 (1521, js lv 6 (.inl x), st, w) := q_istore (jd_of jb_312 dL_law_1519) (by rw [jm_312]; decide)
theorem p312_1521 (lv : jmL) (st : List jmV) (w : jmW) : rn 312 (1521, lv, st, w) = jq_lda 312 1522 lv st w (jg lv 2) := q_aload_n (jd_of jb_312 dL_law_1521) rfl
theorem p312_1522 (lv : jmL) (st : List jmV) (w : jmW) (b : Nat) : rn 312 (1522, lv, jvr b :: st, w) = jq_s (mS w b) (1, 9, 0) (jq_b (decide (jwd st ≤ 8)) (jq_c 312 1525 lv st (rn 173 (0, [(0, jvr b)], [], w)))) := q_callv (as := []) (rest := st) (jd_of jb_312 dL_law_1522) jo_312 jk_10_224 rfl rfl rfl jo_173 jf_312_173 (Nat.le_of_ble_eq_true rfl)
theorem p312_1525 (lv : jmL) (st : List jmV) (w : jmW) : rn 312 (1525, lv, st, w) = jq_ldi 312 1527 lv st w (jg lv 5) := q_iload (jd_of jb_312 dL_law_1525)
theorem p312_1527 (lv : jmL) (st : List jmV) (w : jmW) (x y : Int) : rn 312 (1527, lv, .inl y :: .inl x :: st, w) = if jw x = jw y then rn 312 (1532, lv, st, w) else rn 312 (1530, lv, st, w) := q_icmp_eq (jd_of jb_312 dL_law_1527) (by decide)
theorem p312_1530 (lv : jmL) (st : List jmV) (w : jmW) : rn 312 (1530, lv, st, w) = rn 312 (1531, lv, .inl (0) :: st, w) := q_iconst (jd_of jb_312 dL_law_1530)
theorem p312_1531 (lv : jmL) (w : jmW) (x : Int) : rn 312 (1531, lv, [.inl x], w) = jq_b (decide (x = 0 ∨ x = 1)) (some (some (.inl x), w)) := q_zreturn (jd_of jb_312 dL_law_1531) jr_312
theorem p312_1532 (lv : jmL) (st : List jmV) (w : jmW) : rn 312 (1532, lv, st, w) = jq_ldi 312 1534 lv st w (jg lv 5) := q_iload (jd_of jb_312 dL_law_1532)
theorem p312_1534 (lv : jmL) (st : List jmV) (w : jmW) (x : Int) : rn 312 (1534, lv, .inl x :: st, w) = if jw x = 0 then rn 312 (1537, lv, st, w) else rn 312 (1549, lv, st, w) := q_if_ne (jd_of jb_312 dL_law_1534) (by decide)
theorem p312_1537 (lv : jmL) (st : List jmV) (w : jmW) : rn 312 (1537, lv, st, w) = jq_lda 312 1538 lv st w (jg lv 3) := q_aload_n (jd_of jb_312 dL_law_1537) rfl
theorem p312_1538 (lv : jmL) (st : List jmV) (w : jmW) : rn 312 (1538, lv, st, w) = rn 312 (1539, lv, .inl (0) :: st, w) := q_iconst (jd_of jb_312 dL_law_1538)
theorem p312_1539 (lv : jmL) (st : List jmV) (w : jmW) (a : Nat) (j : Int) : rn 312 (1539, lv, .inl j :: jvr a :: st, w) = jq_gw (mS w a) 2 j 312 1540 lv (.inr (.inl (mJ w a (jix j))) :: st) (w) := q_lald (jd_of jb_312 dL_law_1539)
theorem p312_1540 (lv : jmL) (st : List jmV) (w : jmW) : rn 312 (1540, lv, st, w) = jq_ldi 312 1542 lv st w (jg lv 6) := q_iload (jd_of jb_312 dL_law_1540)
theorem p312_1542 (lv : jmL) (st : List jmV) (w : jmW) (x : Int) : rn 312 (1542, lv, .inl x :: st, w) = rn 312 (1543, lv, .inr (.inl (jw x)) :: st, w) := q_i2l (jd_of jb_312 dL_law_1542)
theorem p312_1543 (lv : jmL) (st : List jmV) (w : jmW) (x y : Int) : rn 312 (1543, lv, .inr (.inl y) :: .inr (.inl x) :: st, w) = rn 312 (1544, lv, .inl (if jwl x < jwl y then -1 else if jwl x = jwl y then 0 else 1) :: st, w) := q_lcmp (jd_of jb_312 dL_law_1543)
theorem p312_1544 (lv : jmL) (st : List jmV) (w : jmW) (x : Int) : rn 312 (1544, lv, .inl x :: st, w) = if jw x = 0 then rn 312 (1549, lv, st, w) else rn 312 (1547, lv, st, w) := q_if_eq (jd_of jb_312 dL_law_1544) (by decide)
theorem p312_1547 (lv : jmL) (st : List jmV) (w : jmW) : rn 312 (1547, lv, st, w) = rn 312 (1548, lv, .inl (0) :: st, w) := q_iconst (jd_of jb_312 dL_law_1547)
theorem p312_1548 (lv : jmL) (w : jmW) (x : Int) : rn 312 (1548, lv, [.inl x], w) = jq_b (decide (x = 0 ∨ x = 1)) (some (some (.inl x), w)) := q_zreturn (jd_of jb_312 dL_law_1548) jr_312
theorem p312_1549 (lv : jmL) (st : List jmV) (w : jmW) : rn 312 (1549, lv, st, w) = rn 312 (1590, lv, st, w) := q_goto (jd_of jb_312 dL_law_1549) (by decide)
theorem p312_1552 (lv : jmL) (st : List jmV) (w : jmW) : rn 312 (1552, lv, st, w) = jq_lda 312 1553 lv st w (jg lv 1) := q_aload_n (jd_of jb_312 dL_law_1552) rfl
theorem p312_1553 (lv : jmL) (st : List jmV) (w : jmW) : rn 312 (1553, lv, st, w) = jq_lda 312 1554 lv st w (jg lv 0) := q_aload_n (jd_of jb_312 dL_law_1553) rfl
theorem p312_1554 (lv : jmL) (st : List jmV) (w : jmW) : rn 312 (1554, lv, st, w) = jq_ldi 312 1556 lv st w (jg lv 4) := q_iload (jd_of jb_312 dL_law_1554)
theorem p312_1556 (lv : jmL) (st : List jmV) (w : jmW) : rn 312 (1556, lv, st, w) = rn 312 (1557, lv, .inl (1) :: st, w) := q_iconst (jd_of jb_312 dL_law_1556)
theorem p312_1557 (lv : jmL) (st : List jmV) (w : jmW) (x y : Int) : rn 312 (1557, lv, .inl y :: .inl x :: st, w) = rn 312 (1558, lv, .inl (x + y) :: st, w) := q_iadd (jd_of jb_312 dL_law_1557)
theorem p312_1558 (lv : jmL) (st : List jmV) (w : jmW) (a : Nat) (j : Int) : rn 312 (1558, lv, .inl j :: jvr a :: st, w) = jq_gr (mS w a) 0 j 312 1559 lv (.inl (mI w a (jix j)) :: st) (w) := q_iald (jd_of jb_312 dL_law_1558)
theorem p312_1559 (lv : jmL) (st : List jmV) (w : jmW) (b : Nat) (x1 : Int) : rn 312 (1559, lv, .inl x1 :: jvr b :: st, w) = jq_s (mS w b) (1, 7, 0) (jq_b (decide (jwd st ≤ 8)) (jq_c 312 1562 lv st (rn 167 (0, [(0, jvr b), (1, .inl x1)], [], w)))) := q_callv (as := [.inl x1]) (rest := st) (jd_of jb_312 dL_law_1559) jo_312 jk_10_227 rfl rfl rfl jo_167 jf_312_167 (Nat.le_of_ble_eq_true rfl)
theorem p312_1562 (lv : jmL) (st : List jmV) (w : jmW) : rn 312 (1562, lv, st, w) = jq_lda 312 1563 lv st w (jg lv 2) := q_aload_n (jd_of jb_312 dL_law_1562) rfl
theorem p312_1563 (lv : jmL) (st : List jmV) (w : jmW) : rn 312 (1563, lv, st, w) = jq_lda 312 1564 lv st w (jg lv 0) := q_aload_n (jd_of jb_312 dL_law_1563) rfl
theorem p312_1564 (lv : jmL) (st : List jmV) (w : jmW) : rn 312 (1564, lv, st, w) = jq_ldi 312 1566 lv st w (jg lv 4) := q_iload (jd_of jb_312 dL_law_1564)
theorem p312_1566 (lv : jmL) (st : List jmV) (w : jmW) : rn 312 (1566, lv, st, w) = rn 312 (1567, lv, .inl (1) :: st, w) := q_iconst (jd_of jb_312 dL_law_1566)
theorem p312_1567 (lv : jmL) (st : List jmV) (w : jmW) (x y : Int) : rn 312 (1567, lv, .inl y :: .inl x :: st, w) = rn 312 (1568, lv, .inl (x + y) :: st, w) := q_iadd (jd_of jb_312 dL_law_1567)
theorem p312_1568 (lv : jmL) (st : List jmV) (w : jmW) (a : Nat) (j : Int) : rn 312 (1568, lv, .inl j :: jvr a :: st, w) = jq_gr (mS w a) 0 j 312 1569 lv (.inl (mI w a (jix j)) :: st) (w) := q_iald (jd_of jb_312 dL_law_1568)
theorem p312_1569 (lv : jmL) (st : List jmV) (w : jmW) (b : Nat) (x1 : Int) : rn 312 (1569, lv, .inl x1 :: jvr b :: st, w) = jq_s (mS w b) (1, 9, 0) (jq_b (decide (jwd st ≤ 8)) (jq_c 312 1572 lv st (rn 310 (0, [(0, jvr b), (1, .inl x1)], [], w)))) := q_callv (as := [.inl x1]) (rest := st) (jd_of jb_312 dL_law_1569) jo_312 jk_10_230 rfl rfl rfl jo_310 jf_312_310 (Nat.le_of_ble_eq_true rfl)
theorem p312_1572 (lv : jmL) (st : List jmV) (w : jmW) (x y : Int) : rn 312 (1572, lv, .inl y :: .inl x :: st, w) = if jw x = jw y then rn 312 (1590, lv, st, w) else rn 312 (1575, lv, st, w) := q_icmp_eq (jd_of jb_312 dL_law_1572) (by decide)
theorem p312_1575 (lv : jmL) (st : List jmV) (w : jmW) : rn 312 (1575, lv, st, w) = rn 312 (1576, lv, .inl (0) :: st, w) := q_iconst (jd_of jb_312 dL_law_1575)
theorem p312_1576 (lv : jmL) (w : jmW) (x : Int) : rn 312 (1576, lv, [.inl x], w) = jq_b (decide (x = 0 ∨ x = 1)) (some (some (.inl x), w)) := q_zreturn (jd_of jb_312 dL_law_1576) jr_312
theorem p312_1577 (lv : jmL) (st : List jmV) (w : jmW) : rn 312 (1577, lv, st, w) = jq_lda 312 1578 lv st w (jg lv 1) := q_aload_n (jd_of jb_312 dL_law_1577) rfl
theorem p312_1578 (lv : jmL) (st : List jmV) (w : jmW) (b : Nat) : rn 312 (1578, lv, jvr b :: st, w) = jq_s (mS w b) (1, 7, 0) (jq_b (decide (jwd st ≤ 8)) (jq_c 312 1581 lv st (rn 170 (0, [(0, jvr b)], [], w)))) := q_callv (as := []) (rest := st) (jd_of jb_312 dL_law_1578) jo_312 jk_10_231 rfl rfl rfl jo_170 jf_312_170 (Nat.le_of_ble_eq_true rfl)
theorem p312_1581 (lv : jmL) (st : List jmV) (w : jmW) : rn 312 (1581, lv, st, w) = jq_lda 312 1582 lv st w (jg lv 2) := q_aload_n (jd_of jb_312 dL_law_1581) rfl
theorem p312_1582 (lv : jmL) (st : List jmV) (w : jmW) (b : Nat) : rn 312 (1582, lv, jvr b :: st, w) = jq_s (mS w b) (1, 9, 0) (jq_b (decide (jwd st ≤ 8)) (jq_c 312 1585 lv st (rn 311 (0, [(0, jvr b)], [], w)))) := q_callv (as := []) (rest := st) (jd_of jb_312 dL_law_1582) jo_312 jk_10_234 rfl rfl rfl jo_311 jf_312_311 (Nat.le_of_ble_eq_true rfl)
theorem p312_1585 (lv : jmL) (st : List jmV) (w : jmW) (x y : Int) : rn 312 (1585, lv, .inl y :: .inl x :: st, w) = if jw x = jw y then rn 312 (1590, lv, st, w) else rn 312 (1588, lv, st, w) := q_icmp_eq (jd_of jb_312 dL_law_1585) (by decide)
theorem p312_1588 (lv : jmL) (st : List jmV) (w : jmW) : rn 312 (1588, lv, st, w) = rn 312 (1589, lv, .inl (0) :: st, w) := q_iconst (jd_of jb_312 dL_law_1588)
theorem p312_1589 (lv : jmL) (w : jmW) (x : Int) : rn 312 (1589, lv, [.inl x], w) = jq_b (decide (x = 0 ∨ x = 1)) (some (some (.inl x), w)) := q_zreturn (jd_of jb_312 dL_law_1589) jr_312
theorem p312_1590 (lv : jmL) (st : List jmV) (w : jmW) : rn 312 (1590, lv, st, w) = jq_inc 312 1593 lv 4 (6) st w (jg lv 4) := q_iinc (jd_of jb_312 dL_law_1590) (by rw [jm_312]; decide)
theorem p312_1593 (lv : jmL) (st : List jmV) (w : jmW) : rn 312 (1593, lv, st, w) = rn 312 (23, lv, st, w) := q_goto (jd_of jb_312 dL_law_1593) (by decide)
theorem p312_1596 (lv : jmL) (st : List jmV) (w : jmW) : rn 312 (1596, lv, st, w) = rn 312 (1597, lv, .inl (1) :: st, w) := q_iconst (jd_of jb_312 dL_law_1596)
theorem p312_1597 (lv : jmL) (w : jmW) (x : Int) : rn 312 (1597, lv, [.inl x], w) = jq_b (decide (x = 0 ∨ x = 1)) (some (some (.inl x), w)) := q_zreturn (jd_of jb_312 dL_law_1597) jr_312
