/-! Math, and Sheet's loops. -/
theorem mm_min {x y : Int} {w : jmW} (h1 : -2147483648 ≤ x) (h2 : x < 2147483648) (h3 : -2147483648 ≤ y) (h4 : y < 2147483648) : rn 5 (0, [(0, .inl x), (1, .inl y)], [], w) = some (some (.inl (min x y)), w) := by
  by_cases c : y < x
  · rw [Int.min_eq_right (by omega)]
    simp (disch := omega) only [p5_0, p5_1, p5_2, p5_5, p5_6, p5_9, p5_10, jwd_c, jwd_0, Nat.reduceLeDiff, Nat.reduceEqDiff, Nat.reduceAdd, Nat.reduceSub, Nat.reduceMul, Int.reduceAdd, Int.reduceSub, Int.reduceMul, Int.reduceNeg, Int.reduceEq, Int.reduceLT, Int.reduceLE, jq_ldi_i, jq_ldl_l, jq_lda_a, jq_inc_i, jq_gs_t, jq_gsb_t, jq_gb_t, jq_gr_2, jq_gr_4, jq_gw_2, jq_s_t, jq_b_t, jg_c, jg_n, js_c, js_n, jrm_c, jrm_n, j2_i, j2_l, j2_a, jq_c_i, jq_c_l, jq_c_0, jq_c_n, jwd_le, jw_c0, mS_I, mS_R, mS_J, mN_I, mN_R, mN_J, mR_I, mI_R, mJ_I, mJ_R, mI_J, mR_J, ↓reduceIte, decide_true, or_true, true_or, and_self, false_or, or_false, reduceCtorEq, Bool.false_eq_true, and_false, false_and, eq_self, true_and, and_true, zero_ne, ↓br_lt_t, ↓br_lt_f, ↓br_eq_t, ↓br_eq_f, ↓br_lz_t, ↓br_lz_f, ↓br_ez_t, ↓br_ez_f, ↓br_gz_t, ↓br_gz_f, jw_id, jin_t, jix_t]
  · rw [Int.min_eq_left (by omega)]
    simp (disch := omega) only [p5_0, p5_1, p5_2, p5_5, p5_6, p5_9, p5_10, jwd_c, jwd_0, Nat.reduceLeDiff, Nat.reduceEqDiff, Nat.reduceAdd, Nat.reduceSub, Nat.reduceMul, Int.reduceAdd, Int.reduceSub, Int.reduceMul, Int.reduceNeg, Int.reduceEq, Int.reduceLT, Int.reduceLE, jq_ldi_i, jq_ldl_l, jq_lda_a, jq_inc_i, jq_gs_t, jq_gsb_t, jq_gb_t, jq_gr_2, jq_gr_4, jq_gw_2, jq_s_t, jq_b_t, jg_c, jg_n, js_c, js_n, jrm_c, jrm_n, j2_i, j2_l, j2_a, jq_c_i, jq_c_l, jq_c_0, jq_c_n, jwd_le, jw_c0, mS_I, mS_R, mS_J, mN_I, mN_R, mN_J, mR_I, mI_R, mJ_I, mJ_R, mI_J, mR_J, ↓reduceIte, decide_true, or_true, true_or, and_self, false_or, or_false, reduceCtorEq, Bool.false_eq_true, and_false, false_and, eq_self, true_and, and_true, zero_ne, ↓br_lt_t, ↓br_lt_f, ↓br_eq_t, ↓br_eq_f, ↓br_lz_t, ↓br_lz_f, ↓br_ez_t, ↓br_ez_f, ↓br_gz_t, ↓br_gz_f, jw_id, jin_t, jix_t]
theorem mm_max {x y : Int} {w : jmW} (h1 : -2147483648 ≤ x) (h2 : x < 2147483648) (h3 : -2147483648 ≤ y) (h4 : y < 2147483648) : rn 110 (0, [(0, .inl x), (1, .inl y)], [], w) = some (some (.inl (max x y)), w) := by
  by_cases c : x < y
  · rw [Int.max_eq_right (by omega)]
    simp (disch := omega) only [p110_0, p110_1, p110_2, p110_5, p110_6, p110_9, p110_10, jwd_c, jwd_0, Nat.reduceLeDiff, Nat.reduceEqDiff, Nat.reduceAdd, Nat.reduceSub, Nat.reduceMul, Int.reduceAdd, Int.reduceSub, Int.reduceMul, Int.reduceNeg, Int.reduceEq, Int.reduceLT, Int.reduceLE, jq_ldi_i, jq_ldl_l, jq_lda_a, jq_inc_i, jq_gs_t, jq_gsb_t, jq_gb_t, jq_gr_2, jq_gr_4, jq_gw_2, jq_s_t, jq_b_t, jg_c, jg_n, js_c, js_n, jrm_c, jrm_n, j2_i, j2_l, j2_a, jq_c_i, jq_c_l, jq_c_0, jq_c_n, jwd_le, jw_c0, mS_I, mS_R, mS_J, mN_I, mN_R, mN_J, mR_I, mI_R, mJ_I, mJ_R, mI_J, mR_J, ↓reduceIte, decide_true, or_true, true_or, and_self, false_or, or_false, reduceCtorEq, Bool.false_eq_true, and_false, false_and, eq_self, true_and, and_true, zero_ne, ↓br_lt_t, ↓br_lt_f, ↓br_eq_t, ↓br_eq_f, ↓br_lz_t, ↓br_lz_f, ↓br_ez_t, ↓br_ez_f, ↓br_gz_t, ↓br_gz_f, jw_id, jin_t, jix_t]
  · rw [Int.max_eq_left (by omega)]
    simp (disch := omega) only [p110_0, p110_1, p110_2, p110_5, p110_6, p110_9, p110_10, jwd_c, jwd_0, Nat.reduceLeDiff, Nat.reduceEqDiff, Nat.reduceAdd, Nat.reduceSub, Nat.reduceMul, Int.reduceAdd, Int.reduceSub, Int.reduceMul, Int.reduceNeg, Int.reduceEq, Int.reduceLT, Int.reduceLE, jq_ldi_i, jq_ldl_l, jq_lda_a, jq_inc_i, jq_gs_t, jq_gsb_t, jq_gb_t, jq_gr_2, jq_gr_4, jq_gw_2, jq_s_t, jq_b_t, jg_c, jg_n, js_c, js_n, jrm_c, jrm_n, j2_i, j2_l, j2_a, jq_c_i, jq_c_l, jq_c_0, jq_c_n, jwd_le, jw_c0, mS_I, mS_R, mS_J, mN_I, mN_R, mN_J, mR_I, mI_R, mJ_I, mJ_R, mI_J, mR_J, ↓reduceIte, decide_true, or_true, true_or, and_self, false_or, or_false, reduceCtorEq, Bool.false_eq_true, and_false, false_and, eq_self, true_and, and_true, zero_ne, ↓br_lt_t, ↓br_lt_f, ↓br_eq_t, ↓br_eq_f, ↓br_lz_t, ↓br_lz_f, ↓br_ez_t, ↓br_ez_f, ↓br_gz_t, ↓br_gz_f, jw_id, jin_t, jix_t]
theorem mm_abs {x : Int} {w : jmW} (h1 : -2147483647 ≤ x) (h2 : x < 2147483648) : rn 138 (0, [(0, .inl x)], [], w) = some (some (.inl (if x < 0 then -x else x)), w) := by
  by_cases c : x < 0
  · rw [if_pos c]
    simp (disch := omega) only [p138_0, p138_1, p138_4, p138_5, p138_6, p138_9, p138_10, jwd_c, jwd_0, Nat.reduceLeDiff, Nat.reduceEqDiff, Nat.reduceAdd, Nat.reduceSub, Nat.reduceMul, Int.reduceAdd, Int.reduceSub, Int.reduceMul, Int.reduceNeg, Int.reduceEq, Int.reduceLT, Int.reduceLE, jq_ldi_i, jq_ldl_l, jq_lda_a, jq_inc_i, jq_gs_t, jq_gsb_t, jq_gb_t, jq_gr_2, jq_gr_4, jq_gw_2, jq_s_t, jq_b_t, jg_c, jg_n, js_c, js_n, jrm_c, jrm_n, j2_i, j2_l, j2_a, jq_c_i, jq_c_l, jq_c_0, jq_c_n, jwd_le, jw_c0, mS_I, mS_R, mS_J, mN_I, mN_R, mN_J, mR_I, mI_R, mJ_I, mJ_R, mI_J, mR_J, ↓reduceIte, decide_true, or_true, true_or, and_self, false_or, or_false, reduceCtorEq, Bool.false_eq_true, and_false, false_and, eq_self, true_and, and_true, zero_ne, ↓br_lt_t, ↓br_lt_f, ↓br_eq_t, ↓br_eq_f, ↓br_lz_t, ↓br_lz_f, ↓br_ez_t, ↓br_ez_f, ↓br_gz_t, ↓br_gz_f, jw_id, jin_t, jix_t]
  · rw [if_neg c]
    simp (disch := omega) only [p138_0, p138_1, p138_4, p138_5, p138_6, p138_9, p138_10, jwd_c, jwd_0, Nat.reduceLeDiff, Nat.reduceEqDiff, Nat.reduceAdd, Nat.reduceSub, Nat.reduceMul, Int.reduceAdd, Int.reduceSub, Int.reduceMul, Int.reduceNeg, Int.reduceEq, Int.reduceLT, Int.reduceLE, jq_ldi_i, jq_ldl_l, jq_lda_a, jq_inc_i, jq_gs_t, jq_gsb_t, jq_gb_t, jq_gr_2, jq_gr_4, jq_gw_2, jq_s_t, jq_b_t, jg_c, jg_n, js_c, js_n, jrm_c, jrm_n, j2_i, j2_l, j2_a, jq_c_i, jq_c_l, jq_c_0, jq_c_n, jwd_le, jw_c0, mS_I, mS_R, mS_J, mN_I, mN_R, mN_J, mR_I, mI_R, mJ_I, mJ_R, mI_J, mR_J, ↓reduceIte, decide_true, or_true, true_or, and_self, false_or, or_false, reduceCtorEq, Bool.false_eq_true, and_false, false_and, eq_self, true_and, and_true, zero_ne, ↓br_lt_t, ↓br_lt_f, ↓br_eq_t, ↓br_eq_f, ↓br_lz_t, ↓br_lz_f, ↓br_ez_t, ↓br_ez_f, ↓br_gz_t, ↓br_gz_f, jw_id, jin_t, jix_t]
theorem sh_cut {w : jmW} {a c r n : Nat} {F : List Int} {x : Int} (h : Sh w a c r F n) (h1x : -2147483648 ≤ x) (h2x : x < 2147483648) : rn 4 (0, [(0, jvr a), (1, .inl x)], [], w) = some (none, setI w a 3 (if x < 0 then 0 else min x n)) := by
  obtain ⟨b1, b2, b3, b4, b5⟩ := h.bd
  obtain ⟨h1, h2, h3, h4, h5, h6, h7, h8, h9, h10, h11⟩ := h
  by_cases c : x < 0
  · rw [if_pos c]
    simp (disch := omega) only [p4_0, p4_1, p4_2, p4_5, p4_6, p4_9, p4_10, p4_11, p4_14, p4_17, p4_20, jwd_c, jwd_0, Nat.reduceLeDiff, Nat.reduceEqDiff, Nat.reduceAdd, Nat.reduceSub, Nat.reduceMul, Int.reduceAdd, Int.reduceSub, Int.reduceMul, Int.reduceNeg, Int.reduceEq, Int.reduceLT, Int.reduceLE, jq_ldi_i, jq_ldl_l, jq_lda_a, jq_inc_i, jq_gs_t, jq_gsb_t, jq_gb_t, jq_gr_2, jq_gr_4, jq_gw_2, jq_s_t, jq_b_t, jg_c, jg_n, js_c, js_n, jrm_c, jrm_n, j2_i, j2_l, j2_a, jq_c_i, jq_c_l, jq_c_0, jq_c_n, jwd_le, jw_c0, mS_I, mS_R, mS_J, mN_I, mN_R, mN_J, mR_I, mI_R, mJ_I, mJ_R, mI_J, mR_J, ↓reduceIte, decide_true, or_true, true_or, and_self, false_or, or_false, reduceCtorEq, Bool.false_eq_true, and_false, false_and, eq_self, true_and, and_true, zero_ne, ↓br_lt_t, ↓br_lt_f, ↓br_eq_t, ↓br_eq_f, ↓br_lz_t, ↓br_lz_f, ↓br_ez_t, ↓br_ez_f, ↓br_gz_t, ↓br_gz_f, jw_id, jin_t, jix_t, h1, h6]
  · rw [if_neg c]
    simp (disch := omega) only [p4_0, p4_1, p4_2, p4_5, p4_6, p4_9, p4_10, p4_11, p4_14, p4_17, p4_20, jwd_c, jwd_0, Nat.reduceLeDiff, Nat.reduceEqDiff, Nat.reduceAdd, Nat.reduceSub, Nat.reduceMul, Int.reduceAdd, Int.reduceSub, Int.reduceMul, Int.reduceNeg, Int.reduceEq, Int.reduceLT, Int.reduceLE, jq_ldi_i, jq_ldl_l, jq_lda_a, jq_inc_i, jq_gs_t, jq_gsb_t, jq_gb_t, jq_gr_2, jq_gr_4, jq_gw_2, jq_s_t, jq_b_t, jg_c, jg_n, js_c, js_n, jrm_c, jrm_n, j2_i, j2_l, j2_a, jq_c_i, jq_c_l, jq_c_0, jq_c_n, jwd_le, jw_c0, mS_I, mS_R, mS_J, mN_I, mN_R, mN_J, mR_I, mI_R, mJ_I, mJ_R, mI_J, mR_J, ↓reduceIte, decide_true, or_true, true_or, and_self, false_or, or_false, reduceCtorEq, Bool.false_eq_true, and_false, false_and, eq_self, true_and, and_true, zero_ne, ↓br_lt_t, ↓br_lt_f, ↓br_eq_t, ↓br_eq_f, ↓br_lz_t, ↓br_lz_f, ↓br_ez_t, ↓br_ez_f, ↓br_gz_t, ↓br_gz_f, jw_id, jin_t, jix_t, h1, h6, mm_min]
theorem Sh.cut {w : jmW} {a c r n m : Nat} {F : List Int} (h : Sh w a c r F n) (hm : m ≤ n) : Sh (setI w a 3 m) a c r (F.take (m * c)) m := by
  obtain ⟨h1, h2, h3, h4, h5, h6, h7, h8, h9, h10, h11⟩ := h
  have hmc : m * c ≤ n * c := Nat.mul_le_mul_right c hm
  refine ⟨h1, h2, h3, by rw [mI_nk (by omega)]; exact h4, by rw [mI_nk (by omega)]; exact h5, mI_s _ _ _ _, by rw [List.length_take]; omega, by omega, h9, h10, fun k hk => ?_⟩
  rw [List.length_take] at hk
  rw [mI_nb (by omega), h11 k (by omega), List.getD_eq_getElem?_getD, List.getD_eq_getElem?_getD, List.getElem?_take_of_lt (by omega)]
theorem blank_loop {a c r n N : Nat} {x v : Int} (hN : n * c = N) (hNr : N ≤ r * c) (hr : r * c ≤ 5000) : ∀ (m i : Nat) (w : jmW), i + m = N → mS w a = (1, 5, 0) → mS w (a + 1) = (2, 0, r * c) → mR w a 0 = some (a + 1) → mI w a 1 = c → mI w a 3 = n → rn 56 (22, [(0, jvr a), (1, .inl x), (2, .inl v), (3, .inl i)], [], w) = some (none, setA w (a + 1) (fun k => if i ≤ k ∧ k < N then v else mI w (a + 1) k)) := by
  have e1 : (n : Int) * (c : Int) = ((N : Nat) : Int) := by rw [← hN]; push_cast; rfl
  intro m
  induction m with
  | zero =>
    intro i w hi h1 h2 h3 h4 h6
    have e2 : (fun k => if i ≤ k ∧ k < N then v else mI w (a + 1) k) = mI w (a + 1) := by
      funext k
      exact if_neg (by omega)
    rw [e2, setA_self]
    simp (disch := omega) only [p56_0, p56_1, p56_2, p56_5, p56_6, p56_9, p56_10, p56_11, p56_14, p56_17, p56_20, p56_21, p56_22, p56_23, p56_24, p56_27, p56_28, p56_31, p56_32, p56_35, p56_36, p56_37, p56_40, p56_41, p56_44, p56_45, p56_48, p56_49, p56_50, p56_51, p56_54, p56_57, jwd_c, jwd_0, Nat.reduceLeDiff, Nat.reduceEqDiff, Nat.reduceAdd, Nat.reduceSub, Nat.reduceMul, Int.reduceAdd, Int.reduceSub, Int.reduceMul, Int.reduceNeg, Int.reduceEq, Int.reduceLT, Int.reduceLE, jq_ldi_i, jq_ldl_l, jq_lda_a, jq_inc_i, jq_gs_t, jq_gsb_t, jq_gb_t, jq_gr_2, jq_gr_4, jq_gw_2, jq_s_t, jq_b_t, jg_c, jg_n, js_c, js_n, jrm_c, jrm_n, j2_i, j2_l, j2_a, jq_c_i, jq_c_l, jq_c_0, jq_c_n, jwd_le, jw_c0, mS_I, mS_R, mS_J, mN_I, mN_R, mN_J, mR_I, mI_R, mJ_I, mJ_R, mI_J, mR_J, ↓reduceIte, decide_true, or_true, true_or, and_self, false_or, or_false, reduceCtorEq, Bool.false_eq_true, and_false, false_and, eq_self, true_and, and_true, zero_ne, ↓br_lt_t, ↓br_lt_f, ↓br_eq_t, ↓br_eq_f, ↓br_lz_t, ↓br_lz_f, ↓br_ez_t, ↓br_ez_f, ↓br_gz_t, ↓br_gz_f, jw_id, jin_t, jix_t, h1, h2, h3, h4, h6, e1]
  | succ m ih =>
    intro i w hi h1 h2 h3 h4 h6
    have e0 : mI (setI w (a + 1) i v) a = mI w a := mI_nb (by omega)
    have e3 := ih (i + 1) (setI w (a + 1) i v) (by omega) h1 h2 h3 (by rw [e0]; exact h4) (by rw [e0]; exact h6)
    rw [p56_22]
    simp (disch := omega) only [p56_0, p56_1, p56_2, p56_5, p56_6, p56_9, p56_10, p56_11, p56_14, p56_17, p56_20, p56_21, p56_23, p56_24, p56_27, p56_28, p56_31, p56_32, p56_35, p56_36, p56_37, p56_40, p56_41, p56_44, p56_45, p56_48, p56_49, p56_50, p56_51, p56_54, p56_57, jwd_c, jwd_0, Nat.reduceLeDiff, Nat.reduceEqDiff, Nat.reduceAdd, Nat.reduceSub, Nat.reduceMul, Int.reduceAdd, Int.reduceSub, Int.reduceMul, Int.reduceNeg, Int.reduceEq, Int.reduceLT, Int.reduceLE, jq_ldi_i, jq_ldl_l, jq_lda_a, jq_inc_i, jq_gs_t, jq_gsb_t, jq_gb_t, jq_gr_2, jq_gr_4, jq_gw_2, jq_s_t, jq_b_t, jg_c, jg_n, js_c, js_n, jrm_c, jrm_n, j2_i, j2_l, j2_a, jq_c_i, jq_c_l, jq_c_0, jq_c_n, jwd_le, jw_c0, mS_I, mS_R, mS_J, mN_I, mN_R, mN_J, mR_I, mI_R, mJ_I, mJ_R, mI_J, mR_J, ↓reduceIte, decide_true, or_true, true_or, and_self, false_or, or_false, reduceCtorEq, Bool.false_eq_true, and_false, false_and, eq_self, true_and, and_true, zero_ne, ↓br_lt_t, ↓br_lt_f, ↓br_eq_t, ↓br_eq_f, ↓br_lz_t, ↓br_lz_f, ↓br_ez_t, ↓br_ez_f, ↓br_gz_t, ↓br_gz_f, jw_id, jin_t, jix_t, h1, h2, h3, h4, h6, e1, Int.toNat_natCast]
    rw [show ((i : Int) + 1) = ((i + 1 : Nat) : Int) by push_cast; rfl, e3]
    rw [setI_A, setA_A]
    congr 2
    congr 1
    funext k
    rw [mI_A]
    unfold up1
    by_cases hk : k = i
    · subst hk
      rw [if_neg (by omega), if_pos rfl, if_pos (by omega)]
    · by_cases hk2 : i + 1 ≤ k ∧ k < N
      · rw [if_pos hk2, if_pos (by omega)]
      · rw [if_neg hk2, if_neg hk, if_neg (by omega)]
theorem sh_blank {w : jmW} {a c r n : Nat} {F : List Int} {x v : Int} (h : Sh w a c r F n) (h1x : 0 ≤ x) (h2x : x ≤ r) : ∃ f, rn 56 (0, [(0, jvr a), (1, .inl x), (2, .inl v)], [], w) = some (none, shS w a x.toNat f) ∧ ∀ k, k < x.toNat * c → f k = v := by
  obtain ⟨b1, b2, b3, b4, b5⟩ := h.bd
  obtain ⟨h1, h2, h3, h4, h5, h6, h7, h8, h9, h10, h11⟩ := h
  obtain ⟨xn, rfl⟩ := Int.eq_ofNat_of_zero_le h1x
  have hxr : xn * c ≤ r * c := Nat.mul_le_mul_right c (by omega)
  have hmin : min (xn : Int) (r : Int) = xn := by omega
  have e0 : mI (setI w a 3 xn) a 1 = mI w a 1 := mI_nk (by omega)
  have e3 := blank_loop (a := a) (x := (xn : Int)) (v := v) (n := xn) (c := c) (r := r) rfl hxr h10 (xn * c) 0 (setI w a 3 xn) (by omega) h1 h2 h3 (by rw [e0]; exact h4) (mI_s _ _ _ _)
  refine ⟨fun k => if 0 ≤ k ∧ k < xn * c then v else mI (setI w a 3 xn) (a + 1) k, ?_, fun k hk => if_pos ⟨by omega, hk⟩⟩
  simp (disch := omega) only [p56_0, p56_1, p56_2, p56_5, p56_6, p56_9, p56_10, p56_11, p56_14, p56_17, p56_20, p56_21, p56_23, p56_24, p56_27, p56_28, p56_31, p56_32, p56_35, p56_36, p56_37, p56_40, p56_41, p56_44, p56_45, p56_48, p56_49, p56_50, p56_51, p56_54, p56_57, jwd_c, jwd_0, Nat.reduceLeDiff, Nat.reduceEqDiff, Nat.reduceAdd, Nat.reduceSub, Nat.reduceMul, Int.reduceAdd, Int.reduceSub, Int.reduceMul, Int.reduceNeg, Int.reduceEq, Int.reduceLT, Int.reduceLE, jq_ldi_i, jq_ldl_l, jq_lda_a, jq_inc_i, jq_gs_t, jq_gsb_t, jq_gb_t, jq_gr_2, jq_gr_4, jq_gw_2, jq_s_t, jq_b_t, jg_c, jg_n, js_c, js_n, jrm_c, jrm_n, j2_i, j2_l, j2_a, jq_c_i, jq_c_l, jq_c_0, jq_c_n, jwd_le, jw_c0, mS_I, mS_R, mS_J, mN_I, mN_R, mN_J, mR_I, mI_R, mJ_I, mJ_R, mI_J, mR_J, ↓reduceIte, decide_true, or_true, true_or, and_self, false_or, or_false, reduceCtorEq, Bool.false_eq_true, and_false, false_and, eq_self, true_and, and_true, zero_ne, ↓br_lt_t, ↓br_lt_f, ↓br_eq_t, ↓br_eq_f, ↓br_lz_t, ↓br_lz_f, ↓br_ez_t, ↓br_ez_f, ↓br_gz_t, ↓br_gz_f, jw_id, jin_t, jix_t, h1, h5, mm_min, hmin]
  exact e3
theorem sh_shift {w : jmW} {a N : Nat} {t f : Nat} (h1 : mS w a = (1, 5, 0)) (h2 : mS w (a + 1) = (2, 0, N)) (h3 : mR w a 0 = some (a + 1)) (hN : N ≤ 5000) (ht : t < N) (hf : f < N) : rn 16 (0, [(0, jvr a), (1, .inl t), (2, .inl f)], [], w) = some (none, setI w (a + 1) t (mI w (a + 1) f)) := by
  simp (disch := omega) only [p16_0, p16_1, p16_4, p16_5, p16_6, p16_9, p16_10, p16_13, p16_14, p16_17, p16_18, p16_19, p16_22, p16_23, p16_26, p16_27, p16_30, p16_31, p16_32, p16_35, p16_36, p16_37, p16_38, jwd_c, jwd_0, Nat.reduceLeDiff, Nat.reduceEqDiff, Nat.reduceAdd, Nat.reduceSub, Nat.reduceMul, Int.reduceAdd, Int.reduceSub, Int.reduceMul, Int.reduceNeg, Int.reduceEq, Int.reduceLT, Int.reduceLE, jq_ldi_i, jq_ldl_l, jq_lda_a, jq_inc_i, jq_gs_t, jq_gsb_t, jq_gb_t, jq_gr_2, jq_gr_4, jq_gw_2, jq_s_t, jq_b_t, jg_c, jg_n, js_c, js_n, jrm_c, jrm_n, j2_i, j2_l, j2_a, jq_c_i, jq_c_l, jq_c_0, jq_c_n, jwd_le, jw_c0, mS_I, mS_R, mS_J, mN_I, mN_R, mN_J, mR_I, mI_R, mJ_I, mJ_R, mI_J, mR_J, ↓reduceIte, decide_true, or_true, true_or, and_self, false_or, or_false, reduceCtorEq, Bool.false_eq_true, and_false, false_and, eq_self, true_and, and_true, zero_ne, ↓br_lt_t, ↓br_lt_f, ↓br_eq_t, ↓br_eq_f, ↓br_lz_t, ↓br_lz_f, ↓br_ez_t, ↓br_ez_f, ↓br_gz_t, ↓br_gz_f, jw_id, jin_t, jix_t, h1, h2, h3, Int.toNat_natCast]
/-- lines pushed down: from the last place back to a place -/
theorem ins_loop {a c r n L : Nat} {l : Int} (hc : 1 ≤ c) (hnr : n < r) (hr : r * c ≤ 5000) (hl : l = L) (hL : L ≤ n) : ∀ (m : Nat) (i : Int) (w : jmW), i = (L + 1 : Nat) * c - 1 + m → m ≤ (n - L) * c → mS w a = (1, 5, 0) → mS w (a + 1) = (2, 0, r * c) → mR w a 0 = some (a + 1) → mI w a 1 = c → mI w a 2 = r → mI w a 3 = n → ∃ i2, rn 15 (38, [(0, jvr a), (1, .inl l), (2, .inl i)], [], w) = rn 15 (67, [(0, jvr a), (1, .inl l), (2, .inl i2)], [], setA w (a + 1) (fun k => if (L + 1) * c ≤ k ∧ k < (L + 1) * c + m then mI w (a + 1) (k - c) else mI w (a + 1) k)) := by
  have hLc : (L + 1) * c ≤ r * c := Nat.mul_le_mul_right c (by omega)
  have hcr : c ≤ (L + 1) * c := by
    have : 1 * c ≤ (L + 1) * c := Nat.mul_le_mul_right c (by omega)
    omega
  have htop : (L + 1) * c + (n - L) * c ≤ r * c := by
    rw [← Nat.add_mul]
    exact Nat.mul_le_mul_right c (by omega)
  have e1 : ((L : Int) + 1) * (c : Int) = (((L + 1) * c : Nat) : Int) := by push_cast; rfl
  subst hl
  generalize hq : (L + 1) * c = q at *
  intro m
  induction m with
  | zero =>
    intro i w hi hm h1 h2 h3 h4 h5 h6
    have e2 : (fun k => if q ≤ k ∧ k < q + 0 then mI w (a + 1) (k - c) else mI w (a + 1) k) = mI w (a + 1) := by
      funext k
      exact if_neg (by omega)
    refine ⟨i, ?_⟩
    rw [e2, setA_self, p15_38]
    have hi2 : i = (q : Int) - 1 := by rw [hi, ← hq]; push_cast; omega
    subst hi2
    simp (disch := omega) only [p15_0, p15_1, p15_4, p15_5, p15_6, p15_9, p15_12, p15_13, p15_16, p15_17, p15_20, p15_23, p15_24, p15_25, p15_28, p15_29, p15_30, p15_31, p15_34, p15_35, p15_36, p15_37, p15_39, p15_40, p15_41, p15_42, p15_43, p15_46, p15_47, p15_50, p15_51, p15_52, p15_53, p15_54, p15_57, p15_58, p15_61, p15_64, p15_68i, p15_68a, p15_69, p15_72, p15_73, p15_74, p15_77, p15_78, p15_79, p15_80, p15_81, p15_84, p15_87, p15_88, p15_89, p15_90, p15_91, p15_94, p15_97, p15_100, jwd_c, jwd_0, Nat.reduceLeDiff, Nat.reduceEqDiff, Nat.reduceAdd, Nat.reduceSub, Nat.reduceMul, Int.reduceAdd, Int.reduceSub, Int.reduceMul, Int.reduceNeg, Int.reduceEq, Int.reduceLT, Int.reduceLE, jq_ldi_i, jq_ldl_l, jq_lda_a, jq_inc_i, jq_gs_t, jq_gsb_t, jq_gb_t, jq_gr_2, jq_gr_4, jq_gw_2, jq_s_t, jq_b_t, jg_c, jg_n, js_c, js_n, jrm_c, jrm_n, j2_i, j2_l, j2_a, jq_c_i, jq_c_l, jq_c_0, jq_c_n, jwd_le, jw_c0, mS_I, mS_R, mS_J, mN_I, mN_R, mN_J, mR_I, mI_R, mJ_I, mJ_R, mI_J, mR_J, ↓reduceIte, decide_true, or_true, true_or, and_self, false_or, or_false, reduceCtorEq, Bool.false_eq_true, and_false, false_and, eq_self, true_and, and_true, zero_ne, ↓br_lt_t, ↓br_lt_f, ↓br_eq_t, ↓br_eq_f, ↓br_lz_t, ↓br_lz_f, ↓br_ez_t, ↓br_ez_f, ↓br_gz_t, ↓br_gz_f, jw_id, jin_t, jix_t, h1, h2, h3, h4, h6, e1]
  | succ m ih =>
    intro i w hi hm h1 h2 h3 h4 h5 h6
    have hi2 : i = ((q + m : Nat) : Int) := by rw [hi, ← hq]; push_cast; omega
    subst hi2
    have e0 : mI (setI w (a + 1) (q + m) (mI w (a + 1) (q + m - c))) a = mI w a := mI_nb (by omega)
    obtain ⟨i2, e3⟩ := ih ((q + m : Nat) - 1 : Int) (setI w (a + 1) (q + m) (mI w (a + 1) (q + m - c))) (by rw [← hq]; push_cast; omega) (by omega) h1 h2 h3 (by rw [e0]; exact h4) (by rw [e0]; exact h5) (by rw [e0]; exact h6)
    refine ⟨i2, ?_⟩
    have e4 : ((q + m : Nat) : Int) - (c : Int) = ((q + m - c : Nat) : Int) := by omega
    have e5 := sh_shift (t := q + m) (f := q + m - c) h1 h2 h3 hr (by omega) (by omega)
    rw [p15_38]
    simp (disch := omega) only [p15_0, p15_1, p15_4, p15_5, p15_6, p15_9, p15_12, p15_13, p15_16, p15_17, p15_20, p15_23, p15_24, p15_25, p15_28, p15_29, p15_30, p15_31, p15_34, p15_35, p15_36, p15_37, p15_39, p15_40, p15_41, p15_42, p15_43, p15_46, p15_47, p15_50, p15_51, p15_52, p15_53, p15_54, p15_57, p15_58, p15_61, p15_64, p15_68i, p15_68a, p15_69, p15_72, p15_73, p15_74, p15_77, p15_78, p15_79, p15_80, p15_81, p15_84, p15_87, p15_88, p15_89, p15_90, p15_91, p15_94, p15_97, p15_100, jwd_c, jwd_0, Nat.reduceLeDiff, Nat.reduceEqDiff, Nat.reduceAdd, Nat.reduceSub, Nat.reduceMul, Int.reduceAdd, Int.reduceSub, Int.reduceMul, Int.reduceNeg, Int.reduceEq, Int.reduceLT, Int.reduceLE, jq_ldi_i, jq_ldl_l, jq_lda_a, jq_inc_i, jq_gs_t, jq_gsb_t, jq_gb_t, jq_gr_2, jq_gr_4, jq_gw_2, jq_s_t, jq_b_t, jg_c, jg_n, js_c, js_n, jrm_c, jrm_n, j2_i, j2_l, j2_a, jq_c_i, jq_c_l, jq_c_0, jq_c_n, jwd_le, jw_c0, mS_I, mS_R, mS_J, mN_I, mN_R, mN_J, mR_I, mI_R, mJ_I, mJ_R, mI_J, mR_J, ↓reduceIte, decide_true, or_true, true_or, and_self, false_or, or_false, reduceCtorEq, Bool.false_eq_true, and_false, false_and, eq_self, true_and, and_true, zero_ne, ↓br_lt_t, ↓br_lt_f, ↓br_eq_t, ↓br_eq_f, ↓br_lz_t, ↓br_lz_f, ↓br_ez_t, ↓br_ez_f, ↓br_gz_t, ↓br_gz_f, jw_id, jin_t, jix_t, h1, h2, h3, h4, h6, e1, e4, e5]
    rw [show ((q + m : Nat) : Int) + -1 = ((q + m : Nat) : Int) - 1 by omega, e3]
    refine rn_w ?_
    rw [setI_A, setA_A]
    refine setA_f (fun k => ?_)
    rw [mI_A]
    unfold up1
    by_cases hk : q ≤ k ∧ k < q + m
    · rw [if_pos hk, if_neg (show ¬ k - c = q + m by omega), if_pos (show q ≤ k ∧ k < q + (m + 1) by omega)]
    · by_cases hk2 : k = q + m
      · subst hk2
        rw [if_neg hk, if_pos rfl, if_pos (by omega)]
      · rw [if_neg hk, if_neg hk2, if_neg (by omega)]
/-- a line's numbers made 0 -/
theorem zer_loop {a c r n L : Nat} (hr : r * c ≤ 5000) (hr5 : r ≤ 5000) (hc5 : c ≤ 5000) (hn : n ≤ r) (hL : L < n) : ∀ (m j : Nat) (w : jmW), j + m = c → mS w a = (1, 5, 0) → mS w (a + 1) = (2, 0, r * c) → mR w a 0 = some (a + 1) → mI w a 1 = c → mI w a 3 = n → rn 15 (79, [(0, jvr a), (1, .inl L), (2, .inl j)], [], w) = some (none, setA w (a + 1) (fun k => if L * c + j ≤ k ∧ k < L * c + c then 0 else mI w (a + 1) k)) := by
  intro m
  induction m with
  | zero =>
    intro j w hj h1 h2 h3 h4 h6
    have e2 : (fun k => if L * c + j ≤ k ∧ k < L * c + c then 0 else mI w (a + 1) k) = mI w (a + 1) := by
      funext k
      exact if_neg (by omega)
    rw [e2, setA_self]
    simp (disch := omega) only [p15_0, p15_1, p15_4, p15_5, p15_6, p15_9, p15_12, p15_13, p15_16, p15_17, p15_20, p15_23, p15_24, p15_25, p15_28, p15_29, p15_30, p15_31, p15_34, p15_35, p15_36, p15_37, p15_38, p15_39, p15_40, p15_41, p15_42, p15_43, p15_46, p15_47, p15_50, p15_51, p15_52, p15_53, p15_54, p15_57, p15_58, p15_61, p15_64, p15_67, p15_68i, p15_68a, p15_69, p15_72, p15_73, p15_74, p15_77, p15_78, p15_79, p15_80, p15_81, p15_84, p15_87, p15_88, p15_89, p15_90, p15_91, p15_94, p15_97, p15_100, jwd_c, jwd_0, Nat.reduceLeDiff, Nat.reduceEqDiff, Nat.reduceAdd, Nat.reduceSub, Nat.reduceMul, Int.reduceAdd, Int.reduceSub, Int.reduceMul, Int.reduceNeg, Int.reduceEq, Int.reduceLT, Int.reduceLE, jq_ldi_i, jq_ldl_l, jq_lda_a, jq_inc_i, jq_gs_t, jq_gsb_t, jq_gb_t, jq_gr_2, jq_gr_4, jq_gw_2, jq_s_t, jq_b_t, jg_c, jg_n, js_c, js_n, jrm_c, jrm_n, j2_i, j2_l, j2_a, jq_c_i, jq_c_l, jq_c_0, jq_c_n, jwd_le, jw_c0, mS_I, mS_R, mS_J, mN_I, mN_R, mN_J, mR_I, mI_R, mJ_I, mJ_R, mI_J, mR_J, ↓reduceIte, decide_true, or_true, true_or, and_self, false_or, or_false, reduceCtorEq, Bool.false_eq_true, and_false, false_and, eq_self, true_and, and_true, zero_ne, ↓br_lt_t, ↓br_lt_f, ↓br_eq_t, ↓br_eq_f, ↓br_lz_t, ↓br_lz_f, ↓br_ez_t, ↓br_ez_f, ↓br_gz_t, ↓br_gz_f, jw_id, jin_t, jix_t, h1, h2, h3, h4, h6]
  | succ m ih =>
    intro j w hj h1 h2 h3 h4 h6
    have e0 : mI (setI w (a + 1) (L * c + j) 0) a = mI w a := mI_nb (by omega)
    have e3 := ih (j + 1) (setI w (a + 1) (L * c + j) 0) (by omega) h1 h2 h3 (by rw [e0]; exact h4) (by rw [e0]; exact h6)
    have e5 := put_raw (v := 0) h1 h2 h3 h4 h6 hn hr hr5 hc5 hL (show j < c by omega)
    rw [p15_79]
    simp (disch := omega) only [p15_0, p15_1, p15_4, p15_5, p15_6, p15_9, p15_12, p15_13, p15_16, p15_17, p15_20, p15_23, p15_24, p15_25, p15_28, p15_29, p15_30, p15_31, p15_34, p15_35, p15_36, p15_37, p15_38, p15_39, p15_40, p15_41, p15_42, p15_43, p15_46, p15_47, p15_50, p15_51, p15_52, p15_53, p15_54, p15_57, p15_58, p15_61, p15_64, p15_67, p15_68i, p15_68a, p15_69, p15_72, p15_73, p15_74, p15_77, p15_78, p15_80, p15_81, p15_84, p15_87, p15_88, p15_89, p15_90, p15_91, p15_94, p15_97, p15_100, jwd_c, jwd_0, Nat.reduceLeDiff, Nat.reduceEqDiff, Nat.reduceAdd, Nat.reduceSub, Nat.reduceMul, Int.reduceAdd, Int.reduceSub, Int.reduceMul, Int.reduceNeg, Int.reduceEq, Int.reduceLT, Int.reduceLE, jq_ldi_i, jq_ldl_l, jq_lda_a, jq_inc_i, jq_gs_t, jq_gsb_t, jq_gb_t, jq_gr_2, jq_gr_4, jq_gw_2, jq_s_t, jq_b_t, jg_c, jg_n, js_c, js_n, jrm_c, jrm_n, j2_i, j2_l, j2_a, jq_c_i, jq_c_l, jq_c_0, jq_c_n, jwd_le, jw_c0, mS_I, mS_R, mS_J, mN_I, mN_R, mN_J, mR_I, mI_R, mJ_I, mJ_R, mI_J, mR_J, ↓reduceIte, decide_true, or_true, true_or, and_self, false_or, or_false, reduceCtorEq, Bool.false_eq_true, and_false, false_and, eq_self, true_and, and_true, zero_ne, ↓br_lt_t, ↓br_lt_f, ↓br_eq_t, ↓br_eq_f, ↓br_lz_t, ↓br_lz_f, ↓br_ez_t, ↓br_ez_f, ↓br_gz_t, ↓br_gz_f, jw_id, jin_t, jix_t, h1, h2, h3, h4, h6, e5]
    rw [show ((j : Int) + 1) = ((j + 1 : Nat) : Int) by push_cast; rfl, e3]
    rw [setI_A, setA_A]
    congr 2
    refine setA_f (fun k => ?_)
    rw [mI_A]
    unfold up1
    by_cases hk : k = L * c + j
    · subst hk
      rw [if_neg (by omega), if_pos rfl, if_pos (by omega)]
    · by_cases hk2 : L * c + (j + 1) ≤ k ∧ k < L * c + c
      · rw [if_pos hk2, if_pos (by omega)]
      · rw [if_neg hk2, if_neg hk, if_neg (by omega)]
theorem sh_insert {w : jmW} {a c r n L : Nat} {F : List Int} (h : Sh w a c r F n) (hn : n < r) (hL : L ≤ n) : ∃ f, rn 15 (0, [(0, jvr a), (1, .inl L)], [], w) = some (none, shS w a (n + 1) f) ∧ ∀ k, k < (n + 1) * c → f k = if k < L * c then F.getD k 0 else if k < (L + 1) * c then 0 else F.getD (k - c) 0 := by
  obtain ⟨b1, b2, b3, b4, b5⟩ := h.bd
  obtain ⟨h1, h2, h3, h4, h5, h6, h7, h8, h9, h10, h11⟩ := h
  have hc5 : c ≤ 5000 := by omega
  have hsp : (L + 1) * c + (n - L) * c = (n + 1) * c := by
    rw [← Nat.add_mul]
    congr 1
    omega
  have hLc : (L + 1) * c = L * c + c := by rw [Nat.add_mul]; omega
  have hnc : (n + 1) * c = n * c + c := by rw [Nat.add_mul]; omega
  obtain ⟨i2, e1⟩ := ins_loop (a := a) (c := c) (r := r) (n := n) (L := L) (l := (L : Int)) h9 hn h10 rfl hL ((n - L) * c) (((L + 1 : Nat) : Int) * c - 1 + ((n - L) * c : Nat)) w rfl (Nat.le_refl _) h1 h2 h3 h4 h5 h6
  generalize hg : (fun k => if (L + 1) * c ≤ k ∧ k < (L + 1) * c + (n - L) * c then mI w (a + 1) (k - c) else mI w (a + 1) k) = g at e1
  have e2 := zer_loop (a := a) (c := c) (r := r) (n := n + 1) (L := L) h10 b4 hc5 (by omega) (by omega) c 0 (setI (setA w (a + 1) g) a 3 (n + 1 : Nat)) (by omega) h1 h2 h3 (by rw [mI_nk (by omega), mI_nA (by omega)]; exact h4) (mI_s _ _ _ _)
  rw [show (((0 : Nat) : Int)) = (0 : Int) from rfl] at e2
  have e3 : ((n : Int) + 1) * (c : Int) - 1 = ((L + 1 : Nat) : Int) * c - 1 + ((n - L) * c : Nat) := by
    have : (((n + 1) * c : Nat) : Int) = (((L + 1) * c + (n - L) * c : Nat) : Int) := by rw [hsp]
    push_cast at this ⊢
    omega
  refine ⟨fun k => if L * c + 0 ≤ k ∧ k < L * c + c then 0 else g k, ?_, fun k hk => ?_⟩
  · simp (disch := omega) only [p15_0, p15_1, p15_4, p15_5, p15_6, p15_9, p15_12, p15_13, p15_16, p15_17, p15_20, p15_23, p15_24, p15_25, p15_28, p15_29, p15_30, p15_31, p15_34, p15_35, p15_36, p15_37, p15_39, p15_40, p15_41, p15_42, p15_43, p15_46, p15_47, p15_50, p15_51, p15_52, p15_53, p15_54, p15_57, p15_58, p15_61, p15_64, p15_68i, p15_68a, p15_69, p15_72, p15_73, p15_74, p15_77, p15_78, p15_79, p15_80, p15_81, p15_84, p15_87, p15_88, p15_89, p15_90, p15_91, p15_94, p15_97, p15_100, jwd_c, jwd_0, Nat.reduceLeDiff, Nat.reduceEqDiff, Nat.reduceAdd, Nat.reduceSub, Nat.reduceMul, Int.reduceAdd, Int.reduceSub, Int.reduceMul, Int.reduceNeg, Int.reduceEq, Int.reduceLT, Int.reduceLE, jq_ldi_i, jq_ldl_l, jq_lda_a, jq_inc_i, jq_gs_t, jq_gsb_t, jq_gb_t, jq_gr_2, jq_gr_4, jq_gw_2, jq_s_t, jq_b_t, jg_c, jg_n, js_c, js_n, jrm_c, jrm_n, j2_i, j2_l, j2_a, jq_c_i, jq_c_l, jq_c_0, jq_c_n, jwd_le, jw_c0, mS_I, mS_R, mS_J, mN_I, mN_R, mN_J, mR_I, mI_R, mJ_I, mJ_R, mI_J, mR_J, ↓reduceIte, decide_true, or_true, true_or, and_self, false_or, or_false, reduceCtorEq, Bool.false_eq_true, and_false, false_and, eq_self, true_and, and_true, zero_ne, ↓br_lt_t, ↓br_lt_f, ↓br_eq_t, ↓br_eq_f, ↓br_lz_t, ↓br_lz_f, ↓br_ez_t, ↓br_ez_f, ↓br_gz_t, ↓br_gz_f, jw_id, jin_t, jix_t, h1, h4, h5, h6, e3]
    rw [e1]
    simp (disch := omega) only [p15_0, p15_1, p15_4, p15_5, p15_6, p15_9, p15_12, p15_13, p15_16, p15_17, p15_20, p15_23, p15_24, p15_25, p15_28, p15_29, p15_30, p15_31, p15_34, p15_35, p15_36, p15_37, p15_39, p15_40, p15_41, p15_42, p15_43, p15_46, p15_47, p15_50, p15_51, p15_52, p15_53, p15_54, p15_57, p15_58, p15_61, p15_64, p15_67, p15_68i, p15_68a, p15_69, p15_72, p15_73, p15_74, p15_77, p15_78, p15_80, p15_81, p15_84, p15_87, p15_88, p15_89, p15_90, p15_91, p15_94, p15_97, p15_100, jwd_c, jwd_0, Nat.reduceLeDiff, Nat.reduceEqDiff, Nat.reduceAdd, Nat.reduceSub, Nat.reduceMul, Int.reduceAdd, Int.reduceSub, Int.reduceMul, Int.reduceNeg, Int.reduceEq, Int.reduceLT, Int.reduceLE, jq_ldi_i, jq_ldl_l, jq_lda_a, jq_inc_i, jq_gs_t, jq_gsb_t, jq_gb_t, jq_gr_2, jq_gr_4, jq_gw_2, jq_s_t, jq_b_t, jg_c, jg_n, js_c, js_n, jrm_c, jrm_n, j2_i, j2_l, j2_a, jq_c_i, jq_c_l, jq_c_0, jq_c_n, jwd_le, jw_c0, mS_I, mS_R, mS_J, mN_I, mN_R, mN_J, mR_I, mI_R, mJ_I, mJ_R, mI_J, mR_J, ↓reduceIte, decide_true, or_true, true_or, and_self, false_or, or_false, reduceCtorEq, Bool.false_eq_true, and_false, false_and, eq_self, true_and, and_true, zero_ne, ↓br_lt_t, ↓br_lt_f, ↓br_eq_t, ↓br_eq_f, ↓br_lz_t, ↓br_lz_f, ↓br_ez_t, ↓br_ez_f, ↓br_gz_t, ↓br_gz_f, jw_id, jin_t, jix_t, mS_A, mR_A, mI_nA, h1, h6]
    rw [show ((n : Int) + 1) = ((n + 1 : Nat) : Int) by push_cast; rfl, e2]
    congr 2
    unfold shS
    rw [setI_setA (by omega), setA_A]
    refine setA_f (fun k => ?_)
    rw [mI_A]
  · show (if L * c + 0 ≤ k ∧ k < L * c + c then 0 else g k) = _
    rw [← hg]
    by_cases q1 : k < L * c
    · rw [if_neg (by omega), if_pos q1]
      show (if _ then _ else _) = _
      rw [if_neg (by omega)]
      exact h11 k (by omega)
    · rw [if_neg q1]
      by_cases q2 : k < (L + 1) * c
      · rw [if_pos (by omega), if_pos q2]
      · rw [if_neg (by omega), if_neg q2]
        show (if _ then _ else _) = _
        rw [if_pos (by omega)]
        exact h11 (k - c) (by omega)
