/-! The class: a Hall laid out; the way out. -/
/-- how wide and high a hall may be -/
def HW (H : Nat → Nat → Int) : Prop := H 1 0 = H 0 0 * H 0 1 ∧ 3 ≤ H 0 0 ∧ H 0 0 ≤ 8 ∧ 2 ≤ H 0 1 ∧ H 0 1 ≤ 6 ∧ 6 ≤ H 1 0 ∧ H 1 0 ≤ 48
section LAY
variable {w u : jmW} {H : Nat → Nat → Int} {b : Nat} {r : Nat → Int} {B : Int}
theorem h_cat (hs : mS w b = (1, 1, 0)) (h8 : mI w b 8 = H 0 0) (h9 : mI w b 9 = H 0 1) (k : HW H) {x y : Int} (x1 : -100 ≤ x) (x2 : x < 1000) (y1 : -100 ≤ y) (y2 : y < 1000) : rn 38 (0, [(0, jvr b), (1, .inl x), (2, .inl y)], [], w) = some (some (.inl (if 0 ≤ x ∧ x < H 0 0 ∧ 0 ≤ y ∧ y < H 0 1 then y * H 0 0 + x else -1)), w) := by
  obtain ⟨k1, k2, k3, k4, k5, k6, k7⟩ := k
  by_cases q1 : 0 ≤ x
  · by_cases q2 : x < H 0 0
    · by_cases q3 : 0 ≤ y
      · by_cases q4 : y < H 0 1
        · rw [if_pos ⟨q1, q2, q3, q4⟩]
          simp (disch := omega) only [p38_0, p38_1, p38_4, p38_5, p38_6, p38_9, p38_12, p38_13, p38_16, p38_17, p38_18, p38_21, p38_24, p38_25, p38_26, p38_29, p38_30, p38_31, p38_32, p38_35, p38_36, jwd_c, jwd_0, Nat.reduceLeDiff, Nat.reduceEqDiff, Nat.reduceAdd, Nat.reduceSub, Nat.reduceMul, Int.reduceAdd, Int.reduceSub, Int.reduceMul, Int.reduceNeg, Int.reduceEq, Int.reduceLT, Int.reduceLE, jq_ldi_i, jq_ldl_l, jq_lda_a, jq_inc_i, jq_gs_t, jq_gsb_t, jq_gb_t, jq_gr_2, jq_gr_4, jq_gw_2, jq_s_t, jq_b_t, jg_c, jg_n, js_c, js_n, jrm_c, jrm_n, j2_i, j2_l, j2_a, jq_c_i, jq_c_l, jq_c_0, jq_c_n, jwd_le, jw_c0, mS_I, mS_R, mS_J, mN_I, mN_R, mN_J, mR_I, mI_R, mJ_I, mJ_R, mI_J, mR_J, ↓reduceIte, decide_true, or_true, true_or, and_self, false_or, or_false, reduceCtorEq, Bool.false_eq_true, and_false, false_and, eq_self, true_and, and_true, zero_ne, ↓br_lt_t, ↓br_lt_f, ↓br_eq_t, ↓br_eq_f, ↓br_lz_t, ↓br_lz_f, ↓br_ez_t, ↓br_ez_f, ↓br_gz_t, ↓br_gz_f, jw_id, jin_t, jix_t, hs, h8, h9]
        · rw [if_neg (fun z => q4 z.2.2.2)]
          simp (disch := omega) only [p38_0, p38_1, p38_4, p38_5, p38_6, p38_9, p38_12, p38_13, p38_16, p38_17, p38_18, p38_21, p38_24, p38_25, p38_26, p38_29, p38_30, p38_31, p38_32, p38_35, p38_36, jwd_c, jwd_0, Nat.reduceLeDiff, Nat.reduceEqDiff, Nat.reduceAdd, Nat.reduceSub, Nat.reduceMul, Int.reduceAdd, Int.reduceSub, Int.reduceMul, Int.reduceNeg, Int.reduceEq, Int.reduceLT, Int.reduceLE, jq_ldi_i, jq_ldl_l, jq_lda_a, jq_inc_i, jq_gs_t, jq_gsb_t, jq_gb_t, jq_gr_2, jq_gr_4, jq_gw_2, jq_s_t, jq_b_t, jg_c, jg_n, js_c, js_n, jrm_c, jrm_n, j2_i, j2_l, j2_a, jq_c_i, jq_c_l, jq_c_0, jq_c_n, jwd_le, jw_c0, mS_I, mS_R, mS_J, mN_I, mN_R, mN_J, mR_I, mI_R, mJ_I, mJ_R, mI_J, mR_J, ↓reduceIte, decide_true, or_true, true_or, and_self, false_or, or_false, reduceCtorEq, Bool.false_eq_true, and_false, false_and, eq_self, true_and, and_true, zero_ne, ↓br_lt_t, ↓br_lt_f, ↓br_eq_t, ↓br_eq_f, ↓br_lz_t, ↓br_lz_f, ↓br_ez_t, ↓br_ez_f, ↓br_gz_t, ↓br_gz_f, jw_id, jin_t, jix_t, hs, h8, h9]
      · rw [if_neg (fun z => q3 z.2.2.1)]
        simp (disch := omega) only [p38_0, p38_1, p38_4, p38_5, p38_6, p38_9, p38_12, p38_13, p38_16, p38_17, p38_18, p38_21, p38_24, p38_25, p38_26, p38_29, p38_30, p38_31, p38_32, p38_35, p38_36, jwd_c, jwd_0, Nat.reduceLeDiff, Nat.reduceEqDiff, Nat.reduceAdd, Nat.reduceSub, Nat.reduceMul, Int.reduceAdd, Int.reduceSub, Int.reduceMul, Int.reduceNeg, Int.reduceEq, Int.reduceLT, Int.reduceLE, jq_ldi_i, jq_ldl_l, jq_lda_a, jq_inc_i, jq_gs_t, jq_gsb_t, jq_gb_t, jq_gr_2, jq_gr_4, jq_gw_2, jq_s_t, jq_b_t, jg_c, jg_n, js_c, js_n, jrm_c, jrm_n, j2_i, j2_l, j2_a, jq_c_i, jq_c_l, jq_c_0, jq_c_n, jwd_le, jw_c0, mS_I, mS_R, mS_J, mN_I, mN_R, mN_J, mR_I, mI_R, mJ_I, mJ_R, mI_J, mR_J, ↓reduceIte, decide_true, or_true, true_or, and_self, false_or, or_false, reduceCtorEq, Bool.false_eq_true, and_false, false_and, eq_self, true_and, and_true, zero_ne, ↓br_lt_t, ↓br_lt_f, ↓br_eq_t, ↓br_eq_f, ↓br_lz_t, ↓br_lz_f, ↓br_ez_t, ↓br_ez_f, ↓br_gz_t, ↓br_gz_f, jw_id, jin_t, jix_t, hs, h8, h9]
    · rw [if_neg (fun z => q2 z.2.1)]
      simp (disch := omega) only [p38_0, p38_1, p38_4, p38_5, p38_6, p38_9, p38_12, p38_13, p38_16, p38_17, p38_18, p38_21, p38_24, p38_25, p38_26, p38_29, p38_30, p38_31, p38_32, p38_35, p38_36, jwd_c, jwd_0, Nat.reduceLeDiff, Nat.reduceEqDiff, Nat.reduceAdd, Nat.reduceSub, Nat.reduceMul, Int.reduceAdd, Int.reduceSub, Int.reduceMul, Int.reduceNeg, Int.reduceEq, Int.reduceLT, Int.reduceLE, jq_ldi_i, jq_ldl_l, jq_lda_a, jq_inc_i, jq_gs_t, jq_gsb_t, jq_gb_t, jq_gr_2, jq_gr_4, jq_gw_2, jq_s_t, jq_b_t, jg_c, jg_n, js_c, js_n, jrm_c, jrm_n, j2_i, j2_l, j2_a, jq_c_i, jq_c_l, jq_c_0, jq_c_n, jwd_le, jw_c0, mS_I, mS_R, mS_J, mN_I, mN_R, mN_J, mR_I, mI_R, mJ_I, mJ_R, mI_J, mR_J, ↓reduceIte, decide_true, or_true, true_or, and_self, false_or, or_false, reduceCtorEq, Bool.false_eq_true, and_false, false_and, eq_self, true_and, and_true, zero_ne, ↓br_lt_t, ↓br_lt_f, ↓br_eq_t, ↓br_eq_f, ↓br_lz_t, ↓br_lz_f, ↓br_ez_t, ↓br_ez_f, ↓br_gz_t, ↓br_gz_f, jw_id, jin_t, jix_t, hs, h8, h9]
  · rw [if_neg (fun z => q1 z.1)]
    simp (disch := omega) only [p38_0, p38_1, p38_4, p38_5, p38_6, p38_9, p38_12, p38_13, p38_16, p38_17, p38_18, p38_21, p38_24, p38_25, p38_26, p38_29, p38_30, p38_31, p38_32, p38_35, p38_36, jwd_c, jwd_0, Nat.reduceLeDiff, Nat.reduceEqDiff, Nat.reduceAdd, Nat.reduceSub, Nat.reduceMul, Int.reduceAdd, Int.reduceSub, Int.reduceMul, Int.reduceNeg, Int.reduceEq, Int.reduceLT, Int.reduceLE, jq_ldi_i, jq_ldl_l, jq_lda_a, jq_inc_i, jq_gs_t, jq_gsb_t, jq_gb_t, jq_gr_2, jq_gr_4, jq_gw_2, jq_s_t, jq_b_t, jg_c, jg_n, js_c, js_n, jrm_c, jrm_n, j2_i, j2_l, j2_a, jq_c_i, jq_c_l, jq_c_0, jq_c_n, jwd_le, jw_c0, mS_I, mS_R, mS_J, mN_I, mN_R, mN_J, mR_I, mI_R, mJ_I, mJ_R, mI_J, mR_J, ↓reduceIte, decide_true, or_true, true_or, and_self, false_or, or_false, reduceCtorEq, Bool.false_eq_true, and_false, false_and, eq_self, true_and, and_true, zero_ne, ↓br_lt_t, ↓br_lt_f, ↓br_eq_t, ↓br_eq_f, ↓br_lz_t, ↓br_lz_f, ↓br_ez_t, ↓br_ez_f, ↓br_gz_t, ↓br_gz_f, jw_id, jin_t, jix_t, hs, h8, h9]
/-- a cell by its column and line -/
theorem to_xy (k : HW H) {c : Int} (c1 : 0 ≤ c) (c2 : c < H 1 0) : (0 ≤ c % H 0 0 ∧ c % H 0 0 < H 0 0 ∧ 0 ≤ c / H 0 0 ∧ c / H 0 0 < H 0 1) ∧ gTo H c 0 = (if 0 ≤ c % H 0 0 ∧ c % H 0 0 < H 0 0 ∧ 0 ≤ c / H 0 0 - 1 ∧ c / H 0 0 - 1 < H 0 1 then (c / H 0 0 - 1) * H 0 0 + c % H 0 0 else -1) ∧ gTo H c 1 = (if 0 ≤ c % H 0 0 + 1 ∧ c % H 0 0 + 1 < H 0 0 ∧ 0 ≤ c / H 0 0 ∧ c / H 0 0 < H 0 1 then c / H 0 0 * H 0 0 + (c % H 0 0 + 1) else -1) ∧ gTo H c 2 = (if 0 ≤ c % H 0 0 ∧ c % H 0 0 < H 0 0 ∧ 0 ≤ c / H 0 0 + 1 ∧ c / H 0 0 + 1 < H 0 1 then (c / H 0 0 + 1) * H 0 0 + c % H 0 0 else -1) ∧ gTo H c 3 = (if 0 ≤ c % H 0 0 - 1 ∧ c % H 0 0 - 1 < H 0 0 ∧ 0 ≤ c / H 0 0 ∧ c / H 0 0 < H 0 1 then c / H 0 0 * H 0 0 + (c % H 0 0 - 1) else -1) := by
  have k1 := k.1
  have hW := w6 k.2.1 k.2.2.1
  have hh : H 0 1 = 2 ∨ H 0 1 = 3 ∨ H 0 1 = 4 ∨ H 0 1 = 5 ∨ H 0 1 = 6 := by have := k.2.2.2; omega
  have e0 : gTo H c 0 = if c < H 0 0 then -1 else c - H 0 0 := by unfold gTo; rw [if_pos (by decide)]
  have e1 : gTo H c 1 = if c % H 0 0 + 1 < H 0 0 then c + 1 else -1 := by unfold gTo; rw [if_neg (by decide), if_pos (by decide)]
  have e2 : gTo H c 2 = if c + H 0 0 < H 1 0 then c + H 0 0 else -1 := by unfold gTo; rw [if_neg (by decide), if_neg (by decide), if_pos (by decide)]
  have e3 : gTo H c 3 = if 0 < c % H 0 0 then c - 1 else -1 := by unfold gTo; rw [if_neg (by decide), if_neg (by decide), if_neg (by decide)]
  rw [e0, e1, e2, e3]
  clear e0 e1 e2 e3
  generalize H 1 0 = N at *
  generalize H 0 0 = W at *
  generalize H 0 1 = V at *
  rcases hW with rfl | rfl | rfl | rfl | rfl | rfl
  all_goals
    rcases hh with rfl | rfl | rfl | rfl | rfl
    all_goals
      refine ⟨by omega, ?_, ?_, ?_, ?_⟩
      all_goals (repeat' split) <;> omega
theorem h_bes (hs : mS w b = (1, 1, 0)) (h8 : mI w b 8 = H 0 0) (h9 : mI w b 9 = H 0 1) (k : HW H) {c s : Int} (c1 : 0 ≤ c) (c2 : c < H 1 0) (s1 : 0 ≤ s) (s2 : s < 4) : rn 50 (0, [(0, jvr b), (1, .inl c), (2, .inl s)], [], w) = some (some (.inl (gTo H c s)), w) := by
  obtain ⟨xy, t0, t1, t2, t3⟩ := to_xy k c1 c2
  have k2 := k.2
  have m1 : c.tmod (H 0 0) = c % H 0 0 := tmod_nn c1
  have m2 : c.tdiv (H 0 0) = c / H 0 0 := tdiv_nn c1
  have a0 := h_cat hs h8 h9 k (x := c % H 0 0) (y := c / H 0 0 - 1) (by omega) (by omega) (by omega) (by omega)
  have a1 := h_cat hs h8 h9 k (x := c % H 0 0 + 1) (y := c / H 0 0) (by omega) (by omega) (by omega) (by omega)
  have a2 := h_cat hs h8 h9 k (x := c % H 0 0) (y := c / H 0 0 + 1) (by omega) (by omega) (by omega) (by omega)
  have a3 := h_cat hs h8 h9 k (x := c % H 0 0 - 1) (y := c / H 0 0) (by omega) (by omega) (by omega) (by omega)
  rw [← t0] at a0
  rw [← t1] at a1
  rw [← t2] at a2
  rw [← t3] at a3
  have hs4 : s = 0 ∨ s = 1 ∨ s = 2 ∨ s = 3 := by omega
  rcases hs4 with rfl | rfl | rfl | rfl
  · simp (disch := omega) only [p50_0, p50_1, p50_4, p50_5, p50_8, p50_9, p50_12, p50_13, p50_14, p50_15, p50_16, p50_19, p50_20, p50_21, p50_22, p50_23, p50_26, p50_27, p50_29, p50_30, p50_56, p50_57, p50_58, p50_60, p50_61, p50_62, p50_65, p50_66, p50_67, p50_68, p50_69, p50_70, p50_72, p50_75, p50_76, p50_77, p50_78, p50_80, p50_81, p50_82, p50_85, p50_86, p50_87, p50_88, p50_89, p50_90, p50_92, p50_95, jwd_c, jwd_0, Nat.reduceLeDiff, Nat.reduceEqDiff, Nat.reduceAdd, Nat.reduceSub, Nat.reduceMul, Int.reduceAdd, Int.reduceSub, Int.reduceMul, Int.reduceNeg, Int.reduceEq, Int.reduceLT, Int.reduceLE, jq_ldi_i, jq_ldl_l, jq_lda_a, jq_inc_i, jq_gs_t, jq_gsb_t, jq_gb_t, jq_gr_2, jq_gr_4, jq_gw_2, jq_s_t, jq_b_t, jg_c, jg_n, js_c, js_n, jrm_c, jrm_n, j2_i, j2_l, j2_a, jq_c_i, jq_c_l, jq_c_0, jq_c_n, jwd_le, jw_c0, mS_I, mS_R, mS_J, mN_I, mN_R, mN_J, mR_I, mI_R, mJ_I, mJ_R, mI_J, mR_J, ↓reduceIte, decide_true, or_true, true_or, and_self, false_or, or_false, reduceCtorEq, Bool.false_eq_true, and_false, false_and, eq_self, true_and, and_true, zero_ne, ↓br_lt_t, ↓br_lt_f, ↓br_eq_t, ↓br_eq_f, ↓br_lz_t, ↓br_lz_f, ↓br_ez_t, ↓br_ez_f, ↓br_gz_t, ↓br_gz_f, jw_id, jin_t, jix_t, ↓ite_t, ↓ite_f, hs, h8, m1, m2, a0]
  · simp (disch := omega) only [p50_0, p50_1, p50_4, p50_5, p50_8, p50_9, p50_12, p50_13, p50_14, p50_15, p50_16, p50_19, p50_20, p50_21, p50_22, p50_23, p50_26, p50_27, p50_29, p50_30, p50_56, p50_57, p50_58, p50_60, p50_61, p50_62, p50_65, p50_66, p50_67, p50_68, p50_69, p50_70, p50_72, p50_75, p50_76, p50_77, p50_78, p50_80, p50_81, p50_82, p50_85, p50_86, p50_87, p50_88, p50_89, p50_90, p50_92, p50_95, jwd_c, jwd_0, Nat.reduceLeDiff, Nat.reduceEqDiff, Nat.reduceAdd, Nat.reduceSub, Nat.reduceMul, Int.reduceAdd, Int.reduceSub, Int.reduceMul, Int.reduceNeg, Int.reduceEq, Int.reduceLT, Int.reduceLE, jq_ldi_i, jq_ldl_l, jq_lda_a, jq_inc_i, jq_gs_t, jq_gsb_t, jq_gb_t, jq_gr_2, jq_gr_4, jq_gw_2, jq_s_t, jq_b_t, jg_c, jg_n, js_c, js_n, jrm_c, jrm_n, j2_i, j2_l, j2_a, jq_c_i, jq_c_l, jq_c_0, jq_c_n, jwd_le, jw_c0, mS_I, mS_R, mS_J, mN_I, mN_R, mN_J, mR_I, mI_R, mJ_I, mJ_R, mI_J, mR_J, ↓reduceIte, decide_true, or_true, true_or, and_self, false_or, or_false, reduceCtorEq, Bool.false_eq_true, and_false, false_and, eq_self, true_and, and_true, zero_ne, ↓br_lt_t, ↓br_lt_f, ↓br_eq_t, ↓br_eq_f, ↓br_lz_t, ↓br_lz_f, ↓br_ez_t, ↓br_ez_f, ↓br_gz_t, ↓br_gz_f, jw_id, jin_t, jix_t, ↓ite_t, ↓ite_f, hs, h8, m1, m2, a1]
  · simp (disch := omega) only [p50_0, p50_1, p50_4, p50_5, p50_8, p50_9, p50_12, p50_13, p50_14, p50_15, p50_16, p50_19, p50_20, p50_21, p50_22, p50_23, p50_26, p50_27, p50_29, p50_30, p50_56, p50_57, p50_58, p50_60, p50_61, p50_62, p50_65, p50_66, p50_67, p50_68, p50_69, p50_70, p50_72, p50_75, p50_76, p50_77, p50_78, p50_80, p50_81, p50_82, p50_85, p50_86, p50_87, p50_88, p50_89, p50_90, p50_92, p50_95, jwd_c, jwd_0, Nat.reduceLeDiff, Nat.reduceEqDiff, Nat.reduceAdd, Nat.reduceSub, Nat.reduceMul, Int.reduceAdd, Int.reduceSub, Int.reduceMul, Int.reduceNeg, Int.reduceEq, Int.reduceLT, Int.reduceLE, jq_ldi_i, jq_ldl_l, jq_lda_a, jq_inc_i, jq_gs_t, jq_gsb_t, jq_gb_t, jq_gr_2, jq_gr_4, jq_gw_2, jq_s_t, jq_b_t, jg_c, jg_n, js_c, js_n, jrm_c, jrm_n, j2_i, j2_l, j2_a, jq_c_i, jq_c_l, jq_c_0, jq_c_n, jwd_le, jw_c0, mS_I, mS_R, mS_J, mN_I, mN_R, mN_J, mR_I, mI_R, mJ_I, mJ_R, mI_J, mR_J, ↓reduceIte, decide_true, or_true, true_or, and_self, false_or, or_false, reduceCtorEq, Bool.false_eq_true, and_false, false_and, eq_self, true_and, and_true, zero_ne, ↓br_lt_t, ↓br_lt_f, ↓br_eq_t, ↓br_eq_f, ↓br_lz_t, ↓br_lz_f, ↓br_ez_t, ↓br_ez_f, ↓br_gz_t, ↓br_gz_f, jw_id, jin_t, jix_t, ↓ite_t, ↓ite_f, hs, h8, m1, m2, a2]
  · simp (disch := omega) only [p50_0, p50_1, p50_4, p50_5, p50_8, p50_9, p50_12, p50_13, p50_14, p50_15, p50_16, p50_19, p50_20, p50_21, p50_22, p50_23, p50_26, p50_27, p50_29, p50_30, p50_56, p50_57, p50_58, p50_60, p50_61, p50_62, p50_65, p50_66, p50_67, p50_68, p50_69, p50_70, p50_72, p50_75, p50_76, p50_77, p50_78, p50_80, p50_81, p50_82, p50_85, p50_86, p50_87, p50_88, p50_89, p50_90, p50_92, p50_95, jwd_c, jwd_0, Nat.reduceLeDiff, Nat.reduceEqDiff, Nat.reduceAdd, Nat.reduceSub, Nat.reduceMul, Int.reduceAdd, Int.reduceSub, Int.reduceMul, Int.reduceNeg, Int.reduceEq, Int.reduceLT, Int.reduceLE, jq_ldi_i, jq_ldl_l, jq_lda_a, jq_inc_i, jq_gs_t, jq_gsb_t, jq_gb_t, jq_gr_2, jq_gr_4, jq_gw_2, jq_s_t, jq_b_t, jg_c, jg_n, js_c, js_n, jrm_c, jrm_n, j2_i, j2_l, j2_a, jq_c_i, jq_c_l, jq_c_0, jq_c_n, jwd_le, jw_c0, mS_I, mS_R, mS_J, mN_I, mN_R, mN_J, mR_I, mI_R, mJ_I, mJ_R, mI_J, mR_J, ↓reduceIte, decide_true, or_true, true_or, and_self, false_or, or_false, reduceCtorEq, Bool.false_eq_true, and_false, false_and, eq_self, true_and, and_true, zero_ne, ↓br_lt_t, ↓br_lt_f, ↓br_eq_t, ↓br_eq_f, ↓br_lz_t, ↓br_lz_f, ↓br_ez_t, ↓br_ez_f, ↓br_gz_t, ↓br_gz_f, jw_id, jin_t, jix_t, ↓ite_t, ↓ite_f, hs, h8, m1, m2, a3]
/-- what laying out reads -/
def LYc (w : jmW) (b : Nat) (H : Nat → Nat → Int) : Prop := mS w b = (1, 1, 0) ∧ mR w b 0 = some (b + 1) ∧ mR w b 6 = some (b + 13) ∧ mI w b 8 = H 0 0 ∧ mI w b 9 = H 0 1 ∧ Sg w (b + 1) 1 48 (H 1 0).toNat (fun i _ => H 17 i)
theorem LYc.fr {P : Nat → Prop} (h : LYc w b H) (hf : Fr P w u) (hP : ∀ x, (x = b ∨ x = b + 1 ∨ x = b + 2) → ¬ P x) : LYc u b H := by
  obtain ⟨h1, h2, h3, h4, h5, h6⟩ := h
  exact ⟨by rw [hf.q]; exact h1, by rw [hf.Rq (hP _ (by omega))]; exact h2, by rw [hf.Rq (hP _ (by omega))]; exact h3, by rw [hf.Iq (hP _ (by omega))]; exact h4, by rw [hf.Iq (hP _ (by omega))]; exact h5, h6.fr hf (hP _ (by omega)) (hP _ (by omega))⟩
theorem open_from {c : Int} (c1 : -1 ≤ c) : gFrom H c ↔ gOpen H c := ⟨fun z => ⟨by have := z.1; omega, z.2⟩, fun z => ⟨by have := z.1; omega, z.2⟩⟩
theorem lay_in (hk : HOK H) {i : Int} (i1 : 0 ≤ i) (i2 : i < H 1 0) : ∀ (n : Nat) (t : Int) (tl : jmL) (w : jmW), LYc w b H → Sg w (b + 13) 4 48 (H 1 0).toNat (fun x y => if (x : Int) < i ∨ ((x : Int) = i ∧ (y : Int) < t) then gNear H x y else -1) → 0 ≤ t → t + n = 4 → t1p 3 tl → ∃ u tl2, rn 55 (30, (0, jvr b) :: (1, .inl i) :: (2, .inl t) :: tl, [], w) = rn 55 (70, (0, jvr b) :: (1, .inl i) :: (2, .inl 4) :: tl2, [], u) ∧ t1p 3 tl2 ∧ Sg u (b + 13) 4 48 (H 1 0).toNat (fun x y => if (x : Int) < i + 1 then gNear H x y else -1) ∧ Fr (sP (b + 13)) w u := by
  have kc := hk.1.2.2.2.2.2
  intro n
  induction n with
  | zero =>
    intro t tl w hc hs t1 t2 ht
    have e : t = 4 := by omega
    subst e
    refine ⟨w, tl, ?_, ht, hs.mk2 (fun x y hx hy => ?_), Fr.rf _ _⟩
    · rw [p55_30]
      simp (disch := omega) only [p55_0, p55_1, p55_4, p55_5, p55_8, p55_11, p55_12, p55_15, p55_16, p55_18, p55_19, p55_22, p55_25, p55_28, p55_29, p55_31, p55_32, p55_35, p55_36, p55_37, p55_38, p55_41, p55_42, p55_43, p55_46, p55_47, p55_48, p55_49, p55_50, p55_53, p55_56, p55_57, p55_60, p55_61, p55_64, p55_67, p55_73, p55_76, p55_77, p55_80, p55_81, p55_84, p55_87, p55_88, p55_91, p55_92, p55_93, p55_96, p55_97, p55_100, p55_103, jwd_c, jwd_0, Nat.reduceLeDiff, Nat.reduceEqDiff, Nat.reduceAdd, Nat.reduceSub, Nat.reduceMul, Int.reduceAdd, Int.reduceSub, Int.reduceMul, Int.reduceNeg, Int.reduceEq, Int.reduceLT, Int.reduceLE, jq_ldi_i, jq_ldl_l, jq_lda_a, jq_inc_i, jq_gs_t, jq_gsb_t, jq_gb_t, jq_gr_2, jq_gr_4, jq_gw_2, jq_s_t, jq_b_t, jg_c, jg_n, js_c, js_n, jrm_c, jrm_n, j2_i, j2_l, j2_a, jq_c_i, jq_c_l, jq_c_0, jq_c_n, jwd_le, jw_c0, mS_I, mS_R, mS_J, mN_I, mN_R, mN_J, mR_I, mI_R, mJ_I, mJ_R, mI_J, mR_J, ↓reduceIte, decide_true, or_true, true_or, and_self, false_or, or_false, reduceCtorEq, Bool.false_eq_true, and_false, false_and, eq_self, true_and, and_true, zero_ne, ↓br_lt_t, ↓br_lt_f, ↓br_eq_t, ↓br_eq_f, ↓br_lz_t, ↓br_lz_f, ↓br_ez_t, ↓br_ez_f, ↓br_gz_t, ↓br_gz_f, jw_id, jin_t, jix_t, ↓ite_t, ↓ite_f]
    · show (if (x : Int) < i ∨ ((x : Int) = i ∧ (y : Int) < 4) then gNear H x y else -1) = _
      by_cases z : (x : Int) < i + 1
      · rw [if_pos z, if_pos (by omega)]
      · rw [if_neg z, if_neg (by omega)]
  | succ n ih =>
    intro t tl w hc hs t1 t2 ht
    have jr : ∀ a, a < 3 → jrm tl a = tl := by
      intro a ha
      rcases ht with rfl | ⟨x, rfl⟩
      · rfl
      · rw [jrm_c, if_neg (by dsimp only; omega), if_neg (by dsimp only; omega)]
        rfl
    have j3 := t1p_js ht
    obtain ⟨h1, h2, h3, h4, h5, h6⟩ := hc
    have hc : LYc w b H := ⟨h1, h2, h3, h4, h5, h6⟩
    have e1 := h_bes (w := w) h1 h4 h5 hk.1 (c := i) (s := t) i1 i2 t1 (by omega)
    have tb := gTo_bd hk (s := t) i1 i2
    have e2 := h_opn (w := w) h1 h2 h6 (by omega) (by omega) hk.2.2.2.1 (c := gTo H i t) (by omega) (by omega)
    rw [bi_c (open_from (H := H) (by omega))] at e2
    obtain ⟨w1, e3, s3, f3⟩ := sg_put (v := ci (gOpen H (gTo H i t)) (gTo H i t) (-1)) hs (l := i) (k := t) i1 (by omega) t1 (by omega)
    have eT : gTo H ((i.toNat : Nat) : Int) ((t.toNat : Nat) : Int) = gTo H i t := by rw [show ((i.toNat : Nat) : Int) = i by omega, show ((t.toNat : Nat) : Int) = t by omega]
    have eN : gNear H i.toNat t.toNat = ci (gOpen H (gTo H i t)) (gTo H i t) (-1) := by
      unfold gNear
      rw [eT]
    have s4 : Sg w1 (b + 13) 4 48 (H 1 0).toNat (fun x y => if (x : Int) < i ∨ ((x : Int) = i ∧ (y : Int) < t + 1) then gNear H x y else -1) := s3.mk2 (fun x y hx hy => by
      show (if x = i.toNat ∧ y = t.toNat then ci (gOpen H (gTo H i t)) (gTo H i t) (-1) else if (x : Int) < i ∨ ((x : Int) = i ∧ (y : Int) < t) then gNear H x y else -1) = _
      by_cases z : x = i.toNat ∧ y = t.toNat
      · rw [if_pos z, if_pos (by omega), z.1, z.2, eN]
      · rw [if_neg z]
        by_cases y2 : (x : Int) < i ∨ ((x : Int) = i ∧ (y : Int) < t)
        · rw [if_pos y2, if_pos (by omega)]
        · rw [if_neg y2, if_neg (by omega)])
    obtain ⟨u, tl2, a1, a2, a3, a4⟩ := ih (t + 1) [(3, .inl (gTo H i t))] w1 (hc.fr f3 (fun x hx => sP_n (by omega))) s4 (by omega) (by omega) (Or.inr ⟨_, rfl⟩)
    refine ⟨u, tl2, ?_, a2, a3, f3.tr a4⟩
    rw [← a1, p55_30]
    have s1 := hs.1
    generalize gTo H i t = T at *
    by_cases q : gOpen H T
    · rw [bi_t q] at e2
      rw [ci_t q] at e3
      simp (disch := omega) only [p55_0, p55_1, p55_4, p55_5, p55_8, p55_11, p55_12, p55_15, p55_16, p55_18, p55_19, p55_22, p55_25, p55_28, p55_29, p55_31, p55_32, p55_35, p55_36, p55_37, p55_38, p55_41, p55_42, p55_43, p55_46, p55_47, p55_48, p55_49, p55_50, p55_53, p55_56, p55_57, p55_60, p55_61, p55_64, p55_67, p55_73, p55_76, p55_77, p55_80, p55_81, p55_84, p55_87, p55_88, p55_91, p55_92, p55_93, p55_96, p55_97, p55_100, p55_103, jwd_c, jwd_0, Nat.reduceLeDiff, Nat.reduceEqDiff, Nat.reduceAdd, Nat.reduceSub, Nat.reduceMul, Int.reduceAdd, Int.reduceSub, Int.reduceMul, Int.reduceNeg, Int.reduceEq, Int.reduceLT, Int.reduceLE, jq_ldi_i, jq_ldl_l, jq_lda_a, jq_inc_i, jq_gs_t, jq_gsb_t, jq_gb_t, jq_gr_2, jq_gr_4, jq_gw_2, jq_s_t, jq_b_t, jg_c, jg_n, js_c, js_n, jrm_c, jrm_n, j2_i, j2_l, j2_a, jq_c_i, jq_c_l, jq_c_0, jq_c_n, jwd_le, jw_c0, mS_I, mS_R, mS_J, mN_I, mN_R, mN_J, mR_I, mI_R, mJ_I, mJ_R, mI_J, mR_J, ↓reduceIte, decide_true, or_true, true_or, and_self, false_or, or_false, reduceCtorEq, Bool.false_eq_true, and_false, false_and, eq_self, true_and, and_true, zero_ne, ↓br_lt_t, ↓br_lt_f, ↓br_eq_t, ↓br_eq_f, ↓br_lz_t, ↓br_lz_f, ↓br_ez_t, ↓br_ez_f, ↓br_gz_t, ↓br_gz_f, jw_id, jin_t, jix_t, ↓ite_t, ↓ite_f, h1, h3, s1, e1, e2, e3, j3, jr]
    · rw [bi_f q] at e2
      rw [ci_f q] at e3
      simp (disch := omega) only [p55_0, p55_1, p55_4, p55_5, p55_8, p55_11, p55_12, p55_15, p55_16, p55_18, p55_19, p55_22, p55_25, p55_28, p55_29, p55_31, p55_32, p55_35, p55_36, p55_37, p55_38, p55_41, p55_42, p55_43, p55_46, p55_47, p55_48, p55_49, p55_50, p55_53, p55_56, p55_57, p55_60, p55_61, p55_64, p55_67, p55_73, p55_76, p55_77, p55_80, p55_81, p55_84, p55_87, p55_88, p55_91, p55_92, p55_93, p55_96, p55_97, p55_100, p55_103, jwd_c, jwd_0, Nat.reduceLeDiff, Nat.reduceEqDiff, Nat.reduceAdd, Nat.reduceSub, Nat.reduceMul, Int.reduceAdd, Int.reduceSub, Int.reduceMul, Int.reduceNeg, Int.reduceEq, Int.reduceLT, Int.reduceLE, jq_ldi_i, jq_ldl_l, jq_lda_a, jq_inc_i, jq_gs_t, jq_gsb_t, jq_gb_t, jq_gr_2, jq_gr_4, jq_gw_2, jq_s_t, jq_b_t, jg_c, jg_n, js_c, js_n, jrm_c, jrm_n, j2_i, j2_l, j2_a, jq_c_i, jq_c_l, jq_c_0, jq_c_n, jwd_le, jw_c0, mS_I, mS_R, mS_J, mN_I, mN_R, mN_J, mR_I, mI_R, mJ_I, mJ_R, mI_J, mR_J, ↓reduceIte, decide_true, or_true, true_or, and_self, false_or, or_false, reduceCtorEq, Bool.false_eq_true, and_false, false_and, eq_self, true_and, and_true, zero_ne, ↓br_lt_t, ↓br_lt_f, ↓br_eq_t, ↓br_eq_f, ↓br_lz_t, ↓br_lz_f, ↓br_ez_t, ↓br_ez_f, ↓br_gz_t, ↓br_gz_f, jw_id, jin_t, jix_t, ↓ite_t, ↓ite_f, h1, h3, s1, e1, e2, e3, j3, jr]
theorem tk_t1 {k : Nat} {t : jmL} (h : t1p k t) : tk k t := by
  rcases h with rfl | ⟨x, rfl⟩
  · exact trivial
  · exact ⟨rfl, ⟨x, rfl⟩, trivial⟩
theorem lay_lp (hk : HOK H) : ∀ (n : Nat) (i : Int) (tl : jmL) (w : jmW), LYc w b H → Sg w (b + 13) 4 48 (H 1 0).toNat (fun x y => if (x : Int) < i then gNear H x y else -1) → 0 ≤ i → i + n = H 1 0 → tl = [] ∨ (∃ x tl2, tl = (2, .inl x) :: tl2 ∧ t1p 3 tl2) → ∃ u tl3, rn 55 (17, (0, jvr b) :: (1, .inl i) :: tl, [], w) = rn 55 (76, (0, jvr b) :: (1, .inl (H 1 0)) :: tl3, [], u) ∧ Sg u (b + 13) 4 48 (H 1 0).toNat (gNear H) ∧ Fr (sP (b + 13)) w u := by
  have kc := hk.1.2.2.2.2.2
  intro n
  induction n with
  | zero =>
    intro i tl w hc hs i1 i2 ht
    have e : i = H 1 0 := by omega
    subst e
    obtain ⟨h1, h2, h3, h4, h5, h6⟩ := hc
    have e0 := sg_count h6
    rw [show (((H 1 0).toNat : Nat) : Int) = H 1 0 by omega] at e0
    have s2 := h6.1
    refine ⟨w, tl, ?_, hs.mk2 (fun x y hx hy => if_pos (by omega)), Fr.rf _ _⟩
    rw [p55_17]
    simp (disch := omega) only [p55_0, p55_1, p55_4, p55_5, p55_8, p55_11, p55_12, p55_15, p55_16, p55_18, p55_19, p55_22, p55_25, p55_28, p55_29, p55_31, p55_32, p55_35, p55_36, p55_37, p55_38, p55_41, p55_42, p55_43, p55_46, p55_47, p55_48, p55_49, p55_50, p55_53, p55_56, p55_57, p55_60, p55_61, p55_64, p55_67, p55_73, p55_77, p55_80, p55_81, p55_84, p55_87, p55_88, p55_91, p55_92, p55_93, p55_96, p55_97, p55_100, p55_103, jwd_c, jwd_0, Nat.reduceLeDiff, Nat.reduceEqDiff, Nat.reduceAdd, Nat.reduceSub, Nat.reduceMul, Int.reduceAdd, Int.reduceSub, Int.reduceMul, Int.reduceNeg, Int.reduceEq, Int.reduceLT, Int.reduceLE, jq_ldi_i, jq_ldl_l, jq_lda_a, jq_inc_i, jq_gs_t, jq_gsb_t, jq_gb_t, jq_gr_2, jq_gr_4, jq_gw_2, jq_s_t, jq_b_t, jg_c, jg_n, js_c, js_n, jrm_c, jrm_n, j2_i, j2_l, j2_a, jq_c_i, jq_c_l, jq_c_0, jq_c_n, jwd_le, jw_c0, mS_I, mS_R, mS_J, mN_I, mN_R, mN_J, mR_I, mI_R, mJ_I, mJ_R, mI_J, mR_J, ↓reduceIte, decide_true, or_true, true_or, and_self, false_or, or_false, reduceCtorEq, Bool.false_eq_true, and_false, false_and, eq_self, true_and, and_true, zero_ne, ↓br_lt_t, ↓br_lt_f, ↓br_eq_t, ↓br_eq_f, ↓br_lz_t, ↓br_lz_f, ↓br_ez_t, ↓br_ez_f, ↓br_gz_t, ↓br_gz_f, jw_id, jin_t, jix_t, ↓ite_t, ↓ite_f, h1, h2, s2, e0]
  | succ n ih =>
    intro i tl w hc hs i1 i2 ht
    obtain ⟨h1, h2, h3, h4, h5, h6⟩ := hc
    have hc : LYc w b H := ⟨h1, h2, h3, h4, h5, h6⟩
    have e0 := sg_count h6
    rw [show (((H 1 0).toNat : Nat) : Int) = H 1 0 by omega] at e0
    have s2 := h6.1
    have ej : ∃ tl2, js tl 2 (.inl 0) = (2, .inl 0) :: tl2 ∧ t1p 3 tl2 := by
      rcases ht with rfl | ⟨x, tl2, rfl, h2⟩
      · exact ⟨[], rfl, Or.inl rfl⟩
      · refine ⟨tl2, ?_, h2⟩
        rw [js_c, if_pos rfl, tk_jrm tl2 3 2 (tk_t1 h2) (by omega)]
    obtain ⟨tl2, j1, j2⟩ := ej
    obtain ⟨w1, tl3, e1, t3, s3, f3⟩ := lay_in hk i1 (by omega) 4 0 tl2 w hc (hs.mk2 (fun x y hx hy => by
      show (if (x : Int) < i then gNear H x y else -1) = _
      by_cases z : (x : Int) < i
      · rw [if_pos z, if_pos (by omega)]
      · rw [if_neg z, if_neg (by omega)])) (by omega) (by omega) j2
    obtain ⟨u, tl4, a1, a2, a3⟩ := ih (i + 1) ((2, .inl 4) :: tl3) w1 (hc.fr f3 (fun x hx => sP_n (by omega))) s3 (by omega) (by omega) (Or.inr ⟨_, _, rfl, t3⟩)
    refine ⟨u, tl4, ?_, a2, f3.tr a3⟩
    have e2 : rn 55 (17, (0, jvr b) :: (1, .inl i) :: tl, [], w) = rn 55 (30, (0, jvr b) :: (1, .inl i) :: (2, .inl 0) :: tl2, [], w) := by
      rw [p55_17]
      simp (disch := omega) only [p55_0, p55_1, p55_4, p55_5, p55_8, p55_11, p55_12, p55_15, p55_16, p55_18, p55_19, p55_22, p55_25, p55_28, p55_29, p55_31, p55_32, p55_35, p55_36, p55_37, p55_38, p55_41, p55_42, p55_43, p55_46, p55_47, p55_48, p55_49, p55_50, p55_53, p55_56, p55_57, p55_60, p55_61, p55_64, p55_67, p55_73, p55_77, p55_80, p55_81, p55_84, p55_87, p55_88, p55_91, p55_92, p55_93, p55_96, p55_97, p55_100, p55_103, jwd_c, jwd_0, Nat.reduceLeDiff, Nat.reduceEqDiff, Nat.reduceAdd, Nat.reduceSub, Nat.reduceMul, Int.reduceAdd, Int.reduceSub, Int.reduceMul, Int.reduceNeg, Int.reduceEq, Int.reduceLT, Int.reduceLE, jq_ldi_i, jq_ldl_l, jq_lda_a, jq_inc_i, jq_gs_t, jq_gsb_t, jq_gb_t, jq_gr_2, jq_gr_4, jq_gw_2, jq_s_t, jq_b_t, jg_c, jg_n, js_c, js_n, jrm_c, jrm_n, j2_i, j2_l, j2_a, jq_c_i, jq_c_l, jq_c_0, jq_c_n, jwd_le, jw_c0, mS_I, mS_R, mS_J, mN_I, mN_R, mN_J, mR_I, mI_R, mJ_I, mJ_R, mI_J, mR_J, ↓reduceIte, decide_true, or_true, true_or, and_self, false_or, or_false, reduceCtorEq, Bool.false_eq_true, and_false, false_and, eq_self, true_and, and_true, zero_ne, ↓br_lt_t, ↓br_lt_f, ↓br_eq_t, ↓br_eq_f, ↓br_lz_t, ↓br_lz_f, ↓br_ez_t, ↓br_ez_f, ↓br_gz_t, ↓br_gz_f, jw_id, jin_t, jix_t, ↓ite_t, ↓ite_f, h1, h2, s2, e0, j1]
    have jr : ∀ a, a < 2 → jrm ((2, .inl 4) :: tl3) a = (2, .inl 4) :: tl3 := fun a ha => tk_jrm _ 2 a ⟨rfl, ⟨4, rfl⟩, tk_t1 t3⟩ ha
    rw [e2, e1, ← a1, p55_70]
    have q1 := jr 1 (by omega)
    rw [jrm_c, if_neg (by decide), if_neg (by decide)] at q1
    simp (disch := omega) only [p55_0, p55_1, p55_4, p55_5, p55_8, p55_11, p55_12, p55_15, p55_16, p55_18, p55_19, p55_22, p55_25, p55_28, p55_29, p55_31, p55_32, p55_35, p55_36, p55_37, p55_38, p55_41, p55_42, p55_43, p55_46, p55_47, p55_48, p55_49, p55_50, p55_53, p55_56, p55_57, p55_60, p55_61, p55_64, p55_67, p55_73, p55_77, p55_80, p55_81, p55_84, p55_87, p55_88, p55_91, p55_92, p55_93, p55_96, p55_97, p55_100, p55_103, jwd_c, jwd_0, Nat.reduceLeDiff, Nat.reduceEqDiff, Nat.reduceAdd, Nat.reduceSub, Nat.reduceMul, Int.reduceAdd, Int.reduceSub, Int.reduceMul, Int.reduceNeg, Int.reduceEq, Int.reduceLT, Int.reduceLE, jq_ldi_i, jq_ldl_l, jq_lda_a, jq_inc_i, jq_gs_t, jq_gsb_t, jq_gb_t, jq_gr_2, jq_gr_4, jq_gw_2, jq_s_t, jq_b_t, jg_c, jg_n, js_c, js_n, jrm_c, jrm_n, j2_i, j2_l, j2_a, jq_c_i, jq_c_l, jq_c_0, jq_c_n, jwd_le, jw_c0, mS_I, mS_R, mS_J, mN_I, mN_R, mN_J, mR_I, mI_R, mJ_I, mJ_R, mI_J, mR_J, ↓reduceIte, decide_true, or_true, true_or, and_self, false_or, or_false, reduceCtorEq, Bool.false_eq_true, and_false, false_and, eq_self, true_and, and_true, zero_ne, ↓br_lt_t, ↓br_lt_f, ↓br_eq_t, ↓br_eq_f, ↓br_lz_t, ↓br_lz_f, ↓br_ez_t, ↓br_ez_f, ↓br_gz_t, ↓br_gz_f, jw_id, jin_t, jix_t, ↓ite_t, ↓ite_f, q1]
theorem h_lay (hk : HOK H) (hc : CH w b H) : ∃ u, rn 55 (0, [(0, jvr b)], [], w) = some (none, u) ∧ CH u b H ∧ Sg u (b + 13) 4 48 (H 1 0).toNat (gNear H) ∧ Sg u (b + 15) 1 48 (H 1 0).toNat (gHmw H) ∧ Fr (fun x => b + 13 ≤ x ∧ x ≤ b + 16) w u := by
  have kc := hk.1.2.2.2.2.2
  have k3 := hk.2.2.1
  have e0 := sg_count hc.g1
  rw [show (((H 1 0).toNat : Nat) : Int) = H 1 0 by omega] at e0
  obtain ⟨n13, q13, m13⟩ := hc.g13
  obtain ⟨n15, q15, m15⟩ := hc.g15
  obtain ⟨w1, e1, s1, f1⟩ := sg_blank (v := -1) m13 (m := H 1 0) (by omega) (by omega)
  have f1 : Fr (sP (b + 13)) w w1 := f1
  have hl : LYc w b H := ⟨hc.s, hc.r0, hc.r6, hc.f8, hc.f9, hc.g1⟩
  have hl1 := hl.fr f1 (fun x hx => sP_n (by omega))
  obtain ⟨w2, tl, e2, s2, f2⟩ := lay_lp hk (H 1 0).toNat 0 [] w1 hl1 (s1.mk2 (fun x y hx hy => (if_neg (by omega)).symm)) (by omega) (by omega) (Or.inl rfl)
  have f12 := f1.tr f2
  have hl2 := hl.fr f12 (fun x hx => sP_n (by omega))
  have m15' := m15.fr f12 (sP_n (by omega)) (sP_n (by omega))
  obtain ⟨w3, e3, s3, f3⟩ := sg_blank (v := 0) m15' (m := H 1 0) (by omega) (by omega)
  have f3 : Fr (sP (b + 15)) w2 w3 := f3
  have hl3 := hl2.fr f3 (fun x hx => sP_n (by omega))
  have s2' := s2.fr f3 (sP_n (by omega)) (sP_n (by omega))
  have sp : SPc w3 b H := ⟨hl3.1, hl3.2.1, hl3.2.2.1, hl3.2.2.2.2.2, s2'⟩
  obtain ⟨u, e4, s4, f4⟩ := h_spread (Bk := fun _ => False) (f := H 0 12) hk sp (s := b + 15) (by omega) (s3.mk2 (fun x y hx hy => (bi_f (fun z => z)).symm)) (by omega) (by omega)
  have fA : Fr (fun x => b + 13 ≤ x ∧ x ≤ b + 16) w u := ((f12.mo (fun x hx => by unfold sP at hx; omega)).tr (f3.mo (fun x hx => by unfold sP at hx; omega))).tr (f4.mo (fun x hx => by unfold sP at hx; omega))
  have s2'' := s2'.fr f4 (sP_n (by omega)) (sP_n (by omega))
  have s4' : Sg u (b + 15) 1 48 (H 1 0).toNat (gHmw H) := s4.mk2 (fun x y hx hy => by
    show gSp H (fun _ => False) (H 0 12) x = gHmw H x y
    unfold gSp gHmw gBase
    by_cases z : 0 ≤ gDist H (fun _ => False) (H 0 12) x
    · rw [if_pos z, if_neg (by omega)]
    · rw [if_neg z, if_pos (by omega), ci_f (fun z => z)])
  have o15 : b + 15 ≠ b := by omega
  have ch : CH u b H := by
    have tr : ∀ k c r n q, k ≤ 11 → Sg w (b + k) c r n q → Sg u (b + k) c r n q := fun k c r n q hk s => s.fr fA (by omega) (by omega)
    have p0 : ¬ (b + 13 ≤ b ∧ b ≤ b + 16) := by omega
    have m1 := hc.g1
    have m3 := hc.g3
    have m5 := hc.g5
    have m7 := hc.g7
    have m9 := hc.g9
    have m11 := hc.g11
    have hc2 := hc
    unfold CH at hc2 ⊢
    rw [fA.q, fA.Rq p0, fA.Iq p0]
    obtain ⟨y1, y2, y3, y4, y5, y6, y7, y8, y9, x1, x2, x3, x4, x5, x6, x7, x8, x9, x10, -⟩ := hc2
    exact ⟨y1, y2, y3, y4, y5, y6, y7, y8, y9, x1, x2, x3, x4, x5, x6, x7, x8, x9, x10, tr 1 _ _ _ _ (by omega) m1, tr 3 _ _ _ _ (by omega) m3, tr 5 _ _ _ _ (by omega) m5, tr 7 _ _ _ _ (by omega) m7, tr 9 _ _ _ _ (by omega) m9, tr 11 _ _ _ _ (by omega) m11, ⟨_, _, s2''⟩, ⟨_, _, s4'⟩⟩
  refine ⟨u, ?_, ch, s2'', s4', fA⟩
  have x1 := m13.1
  have x2 := m15'.1
  have x3 := hc.t1
  have x4 := hl2.2.2.2.2.2.1
  have x5 := f12.q
  have x6 := f12.Rq (b := b) (sP_n (by omega))
  have x7 := f3.q
  have x8 := f3.Rq (b := b) (sP_n (by omega))
  have x9 := f12.Iq (b := b) (sP_n (by omega))
  have x10 := f3.Iq (b := b) (sP_n (by omega))
  have e5 := sg_count hl2.2.2.2.2.2
  rw [show (((H 1 0).toNat : Nat) : Int) = H 1 0 by omega] at e5
  have ea : rn 55 (0, [(0, jvr b)], [], w) = rn 55 (17, [(0, jvr b), (1, .inl 0)], [], w1) := by
    simp (disch := omega) only [p55_0, p55_1, p55_4, p55_5, p55_8, p55_11, p55_12, p55_15, p55_16, p55_18, p55_19, p55_22, p55_25, p55_28, p55_29, p55_31, p55_32, p55_35, p55_36, p55_37, p55_38, p55_41, p55_42, p55_43, p55_46, p55_47, p55_48, p55_49, p55_50, p55_53, p55_56, p55_57, p55_60, p55_61, p55_64, p55_67, p55_73, p55_77, p55_80, p55_81, p55_84, p55_87, p55_88, p55_91, p55_92, p55_93, p55_96, p55_97, p55_100, p55_103, jwd_c, jwd_0, Nat.reduceLeDiff, Nat.reduceEqDiff, Nat.reduceAdd, Nat.reduceSub, Nat.reduceMul, Int.reduceAdd, Int.reduceSub, Int.reduceMul, Int.reduceNeg, Int.reduceEq, Int.reduceLT, Int.reduceLE, jq_ldi_i, jq_ldl_l, jq_lda_a, jq_inc_i, jq_gs_t, jq_gsb_t, jq_gb_t, jq_gr_2, jq_gr_4, jq_gw_2, jq_s_t, jq_b_t, jg_c, jg_n, js_c, js_n, jrm_c, jrm_n, j2_i, j2_l, j2_a, jq_c_i, jq_c_l, jq_c_0, jq_c_n, jwd_le, jw_c0, mS_I, mS_R, mS_J, mN_I, mN_R, mN_J, mR_I, mI_R, mJ_I, mJ_R, mI_J, mR_J, ↓reduceIte, decide_true, or_true, true_or, and_self, false_or, or_false, reduceCtorEq, Bool.false_eq_true, and_false, false_and, eq_self, true_and, and_true, zero_ne, ↓br_lt_t, ↓br_lt_f, ↓br_eq_t, ↓br_eq_f, ↓br_lz_t, ↓br_lz_f, ↓br_ez_t, ↓br_ez_f, ↓br_gz_t, ↓br_gz_f, jw_id, jin_t, jix_t, ↓ite_t, ↓ite_f, CH.s hc, CH.r0 hc, CH.r1 hc, CH.r2 hc, CH.r3 hc, CH.r4 hc, CH.r5 hc, CH.r6 hc, CH.r7 hc, CH.f8 hc, CH.f9 hc, CH.f10 hc, CH.f11 hc, CH.f12 hc, CH.f14 hc, CH.f15 hc, CH.f16 hc, CH.f17 hc, CH.t1 hc, CH.t3 hc, CH.t5 hc, CH.t7 hc, CH.t9 hc, CH.t11 hc, CH.t13 hc, CH.t15 hc, x1, e0, e1]
  have x11 := hc.s
  have x12 := hc.r0
  have x13 := hc.r7
  have x14 := hc.f14
  rw [x5] at x2 x4
  rw [ea, e2, p55_76]
  simp (disch := omega) only [p55_0, p55_1, p55_4, p55_5, p55_8, p55_11, p55_12, p55_15, p55_16, p55_18, p55_19, p55_22, p55_25, p55_28, p55_29, p55_31, p55_32, p55_35, p55_36, p55_37, p55_38, p55_41, p55_42, p55_43, p55_46, p55_47, p55_48, p55_49, p55_50, p55_53, p55_56, p55_57, p55_60, p55_61, p55_64, p55_67, p55_73, p55_77, p55_80, p55_81, p55_84, p55_87, p55_88, p55_91, p55_92, p55_93, p55_96, p55_97, p55_100, p55_103, jwd_c, jwd_0, Nat.reduceLeDiff, Nat.reduceEqDiff, Nat.reduceAdd, Nat.reduceSub, Nat.reduceMul, Int.reduceAdd, Int.reduceSub, Int.reduceMul, Int.reduceNeg, Int.reduceEq, Int.reduceLT, Int.reduceLE, jq_ldi_i, jq_ldl_l, jq_lda_a, jq_inc_i, jq_gs_t, jq_gsb_t, jq_gb_t, jq_gr_2, jq_gr_4, jq_gw_2, jq_s_t, jq_b_t, jg_c, jg_n, js_c, js_n, jrm_c, jrm_n, j2_i, j2_l, j2_a, jq_c_i, jq_c_l, jq_c_0, jq_c_n, jwd_le, jw_c0, mS_I, mS_R, mS_J, mN_I, mN_R, mN_J, mR_I, mI_R, mJ_I, mJ_R, mI_J, mR_J, ↓reduceIte, decide_true, or_true, true_or, and_self, false_or, or_false, reduceCtorEq, Bool.false_eq_true, and_false, false_and, eq_self, true_and, and_true, zero_ne, ↓br_lt_t, ↓br_lt_f, ↓br_eq_t, ↓br_eq_f, ↓br_lz_t, ↓br_lz_f, ↓br_ez_t, ↓br_ez_f, ↓br_gz_t, ↓br_gz_f, jw_id, jin_t, jix_t, ↓ite_t, ↓ite_f, x2, x4, x5, x6, x7, x8, x9, x10, x11, x12, x13, x14, e5, e3, e4]
/-- the way out -/
noncomputable def A35 (H : Nat → Nat → Int) (r : Nat → Int) : Int × Int := if 0 ≤ H 0 12 then (gDist H (fun c => gSO r c (-1)) (gCell r 0) (H 0 12), 0) else (-1, 6)
theorem so_own (r : Nat → Int) : ∀ c, c ≠ gCell r 0 → (gSO r c 0 ↔ gSO r c (-1)) := by
  intro c hc
  constructor
  · rintro ⟨i, i1, i2, i3, i4⟩
    exact ⟨i, i1, i2, by omega, i4⟩
  · rintro ⟨i, i1, i2, i3, i4⟩
    refine ⟨i, i1, i2, fun z => ?_, i4⟩
    subst z
    exact hc i4.symm
theorem c_out (h : cO w H r) (hk : HOK H) (ri : RI H B r) : ∃ u, rn 143 (0, [(0, jvr 64)], [], w) = some (some (.inl (A35 H r).1), u) ∧ qC w u H (A35 H r).2 := by
  have kc := hk.1.2.2.2.2.2
  have k3 := hk.2.2.1
  have h16 := ri.1.1
  unfold A35
  by_cases q : 0 ≤ H 0 12
  · rw [if_pos q]
    obtain ⟨n6, q6, m6⟩ := h.2.2.2.2.2.2.2.2.2
    have e0 := sg_count h.ch.g1
    rw [show (((H 1 0).toNat : Nat) : Int) = H 1 0 by omega] at e0
    obtain ⟨w1, e1, s1, f1⟩ := r_shut h.cr m6 hk ri.1 ri.2.1 ri.2.2.1 (by omega)
    have f1 : Fr (sP 236) w w1 := f1
    have hb1 := h.fb.fr f1 (fun b hb => sP_n (by omega))
    have c0 := RC ri.2.1 ri.2.2.1 (i := 0) (by omega) (by omega)
    have cr1 := h.cr.fr f1 (fun b b1 b2 => sP_n (by omega))
    have e2 := r_cell cr1 ri.1 ri.2.1 (i := 0) (by omega) (by omega)
    have ch1 := hb1.ch
    have sp : SPc w1 84 H := ⟨ch1.s, ch1.r0, ch1.r6, ch1.g1, hb1.2.2.2.2.2.2.2.2.2.2.2.2.2.2.2.1⟩
    obtain ⟨w2, e3, s3, f3⟩ := h_spread (Bk := fun c => gSO r c 0) (f := gCell r 0) hk sp (s := 236) (by omega) s1 (by omega) (by omega)
    have f3 : Fr (sP 236) w1 w2 := f3
    have f13 := f1.tr f3
    have e4 := sg_in s3 (l := H 0 12) (k := 0) q (by omega) (by omega) (by omega)
    rw [show ((((H 0 12).toNat : Nat) : Int)) = H 0 12 by omega] at e4
    have db := gDist_bd (Bk := fun c => gSO r c 0) (f := gCell r 0) (c := H 0 12) hk c0.2.1
    have dc := dist_cl (H := H) (Bk := fun c => gSO r c 0) (f := gCell r 0) (c := H 0 12)
    have bb := base_bd (Bk := fun c => gSO r c 0) (H 0 12)
    rw [← dist_own (so_own r) (H 0 12)]
    have eS : gSp H (fun c => gSO r c 0) (gCell r 0) (H 0 12) = if 0 ≤ gDist H (fun c => gSO r c 0) (gCell r 0) (H 0 12) then gDist H (fun c => gSO r c 0) (gCell r 0) (H 0 12) else gBase (fun c => gSO r c 0) (H 0 12) := rfl
    rw [eS] at e4
    generalize gDist H (fun c => gSO r c 0) (gCell r 0) (H 0 12) = D at *
    generalize gBase (fun c => gSO r c 0) (H 0 12) = E at *
    have x1 := m6.1
    have x2 := f1.q
    have x3 := f13.q
    have x4 := f1.Rq (b := 64) (sP_n (by omega))
    have x5 := f13.Rq (b := 64) (sP_n (by omega))
    have x6 := f13.Iq (b := 84) (sP_n (by omega))
    have g : Fr (fun b => b = 64) w2 (setI w2 64 14 0) := Fr.I rfl
    have i64 := f13.Iq (b := 64) (sP_n (by omega))
    refine ⟨setI w2 64 14 0, ?_, ⟨(f13.mo (fun b hb => by unfold sP at hb; unfold qP; omega)).tr (g.mo (fun b hb => Or.inl hb)), x5, fun k hk => by rw [mI_nk hk, i64], mI_s _ _ _ _, (h.fb.fr f13 (fun b hb => sP_n (by omega))).fr g (fun b hb => by omega), ?_⟩⟩
    · by_cases z : 0 ≤ D
      · rw [if_pos z] at e4
        simp (disch := omega) only [p143_0, p143_1, p143_4, p143_7, p143_8, p143_9, p143_12, p143_13, p143_14, p143_17, p143_20, p143_23, p143_24, p143_26, p143_29, p143_30, p143_31, p143_34, p143_35, p143_38, p143_41, p143_44, p143_45, p143_48, p143_51, p143_52, p143_55, p143_56, p143_59, p143_60, p143_63, p143_64, p143_67, p143_70, p143_71, p143_74, p143_75, p143_78, p143_81, p143_82, p143_85, p143_86, p143_87, p143_88, p143_91, p143_93, p143_96, p143_97, p143_100, p62_0, p62_1, p62_2, p62_5, p62_6, jwd_c, jwd_0, Nat.reduceLeDiff, Nat.reduceEqDiff, Nat.reduceAdd, Nat.reduceSub, Nat.reduceMul, Int.reduceAdd, Int.reduceSub, Int.reduceMul, Int.reduceNeg, Int.reduceEq, Int.reduceLT, Int.reduceLE, jq_ldi_i, jq_ldl_l, jq_lda_a, jq_inc_i, jq_gs_t, jq_gsb_t, jq_gb_t, jq_gr_2, jq_gr_4, jq_gw_2, jq_s_t, jq_b_t, jg_c, jg_n, js_c, js_n, jrm_c, jrm_n, j2_i, j2_l, j2_a, jq_c_i, jq_c_l, jq_c_0, jq_c_n, jwd_le, jw_c0, mS_I, mS_R, mS_J, mN_I, mN_R, mN_J, mR_I, mI_R, mJ_I, mJ_R, mI_J, mR_J, ↓reduceIte, decide_true, or_true, true_or, and_self, false_or, or_false, reduceCtorEq, Bool.false_eq_true, and_false, false_and, eq_self, true_and, and_true, zero_ne, ↓br_lt_t, ↓br_lt_f, ↓br_eq_t, ↓br_eq_f, ↓br_lz_t, ↓br_lz_f, ↓br_ez_t, ↓br_ez_f, ↓br_gz_t, ↓br_gz_f, jw_id, jin_t, jix_t, ↓ite_t, ↓ite_f, cO.s h, cO.r0 h, cO.r1 h, cO.r2 h, cO.r3 h, cO.r4 h, cO.r5 h, cO.r6 h, cO.r7 h, cO.r8 h, cO.r9 h, cO.r10 h, cO.o h, cO.x111 h, cO.x111p h, cO.x111k h, cO.x111t h, cO.x112 h, cO.x114 h, cO.x116 h, cO.x118 h, cO.x84 h, cO.x84r0 h, cO.x84r1 h, cO.x84r2 h, cO.x84r3 h, cO.x84r4 h, cO.x84r5 h, cO.x84r6 h, cO.x84r7 h, cO.x85 h, cO.x87 h, cO.x89 h, cO.x91 h, cO.x93 h, cO.x95 h, cO.x97 h, cO.x99 h, cO.x84f8 h, cO.x84f9 h, cO.x84f10 h, cO.x84f11 h, cO.x84f12 h, cO.x84f14 h, cO.x84f15 h, cO.x84f16 h, cO.x84f17 h, x1, x2, x3, x4, x5, x6, e0, e1, e2, e3, e4]
      · rw [if_neg z] at e4
        have : D = -2 := by omega
        rw [this]
        simp (disch := omega) only [p143_0, p143_1, p143_4, p143_7, p143_8, p143_9, p143_12, p143_13, p143_14, p143_17, p143_20, p143_23, p143_24, p143_26, p143_29, p143_30, p143_31, p143_34, p143_35, p143_38, p143_41, p143_44, p143_45, p143_48, p143_51, p143_52, p143_55, p143_56, p143_59, p143_60, p143_63, p143_64, p143_67, p143_70, p143_71, p143_74, p143_75, p143_78, p143_81, p143_82, p143_85, p143_86, p143_87, p143_88, p143_91, p143_93, p143_96, p143_97, p143_100, p62_0, p62_1, p62_2, p62_5, p62_6, jwd_c, jwd_0, Nat.reduceLeDiff, Nat.reduceEqDiff, Nat.reduceAdd, Nat.reduceSub, Nat.reduceMul, Int.reduceAdd, Int.reduceSub, Int.reduceMul, Int.reduceNeg, Int.reduceEq, Int.reduceLT, Int.reduceLE, jq_ldi_i, jq_ldl_l, jq_lda_a, jq_inc_i, jq_gs_t, jq_gsb_t, jq_gb_t, jq_gr_2, jq_gr_4, jq_gw_2, jq_s_t, jq_b_t, jg_c, jg_n, js_c, js_n, jrm_c, jrm_n, j2_i, j2_l, j2_a, jq_c_i, jq_c_l, jq_c_0, jq_c_n, jwd_le, jw_c0, mS_I, mS_R, mS_J, mN_I, mN_R, mN_J, mR_I, mI_R, mJ_I, mJ_R, mI_J, mR_J, ↓reduceIte, decide_true, or_true, true_or, and_self, false_or, or_false, reduceCtorEq, Bool.false_eq_true, and_false, false_and, eq_self, true_and, and_true, zero_ne, ↓br_lt_t, ↓br_lt_f, ↓br_eq_t, ↓br_eq_f, ↓br_lz_t, ↓br_lz_f, ↓br_ez_t, ↓br_ez_f, ↓br_gz_t, ↓br_gz_f, jw_id, jin_t, jix_t, ↓ite_t, ↓ite_f, cO.s h, cO.r0 h, cO.r1 h, cO.r2 h, cO.r3 h, cO.r4 h, cO.r5 h, cO.r6 h, cO.r7 h, cO.r8 h, cO.r9 h, cO.r10 h, cO.o h, cO.x111 h, cO.x111p h, cO.x111k h, cO.x111t h, cO.x112 h, cO.x114 h, cO.x116 h, cO.x118 h, cO.x84 h, cO.x84r0 h, cO.x84r1 h, cO.x84r2 h, cO.x84r3 h, cO.x84r4 h, cO.x84r5 h, cO.x84r6 h, cO.x84r7 h, cO.x85 h, cO.x87 h, cO.x89 h, cO.x91 h, cO.x93 h, cO.x95 h, cO.x97 h, cO.x99 h, cO.x84f8 h, cO.x84f9 h, cO.x84f10 h, cO.x84f11 h, cO.x84f12 h, cO.x84f14 h, cO.x84f15 h, cO.x84f16 h, cO.x84f17 h, x1, x2, x3, x4, x5, x6, e0, e1, e2, e3, e4]
    · obtain ⟨o1, o2, o3, o4, o5, o6⟩ := h.2.2.2.2
      have s5 := s3.fr g (by omega) (by omega)
      exact ⟨by rw [g.q, x3]; exact o1, by rw [g.Rq (by omega), f13.Rq (sP_n (by omega))]; exact o2, by rw [g.Rq (by omega), f13.Rq (sP_n (by omega))]; exact o3, exSg (exSg o4 f13 (sP_n (by omega)) (sP_n (by omega))) g (by omega) (by omega), exSg (exSg o5 f13 (sP_n (by omega)) (sP_n (by omega))) g (by omega) (by omega), ⟨_, _, s5⟩⟩
  · rw [if_neg q]
    refine ⟨_, ?_, qC.triv h⟩
    simp (disch := omega) only [p143_0, p143_1, p143_4, p143_7, p143_8, p143_9, p143_12, p143_13, p143_14, p143_17, p143_20, p143_23, p143_24, p143_26, p143_29, p143_30, p143_31, p143_34, p143_35, p143_38, p143_41, p143_44, p143_45, p143_48, p143_51, p143_52, p143_55, p143_56, p143_59, p143_60, p143_63, p143_64, p143_67, p143_70, p143_71, p143_74, p143_75, p143_78, p143_81, p143_82, p143_85, p143_86, p143_87, p143_88, p143_91, p143_93, p143_96, p143_97, p143_100, p19_0, p19_1, p19_2, p19_5, p19_6, jwd_c, jwd_0, Nat.reduceLeDiff, Nat.reduceEqDiff, Nat.reduceAdd, Nat.reduceSub, Nat.reduceMul, Int.reduceAdd, Int.reduceSub, Int.reduceMul, Int.reduceNeg, Int.reduceEq, Int.reduceLT, Int.reduceLE, jq_ldi_i, jq_ldl_l, jq_lda_a, jq_inc_i, jq_gs_t, jq_gsb_t, jq_gb_t, jq_gr_2, jq_gr_4, jq_gw_2, jq_s_t, jq_b_t, jg_c, jg_n, js_c, js_n, jrm_c, jrm_n, j2_i, j2_l, j2_a, jq_c_i, jq_c_l, jq_c_0, jq_c_n, jwd_le, jw_c0, mS_I, mS_R, mS_J, mN_I, mN_R, mN_J, mR_I, mI_R, mJ_I, mJ_R, mI_J, mR_J, ↓reduceIte, decide_true, or_true, true_or, and_self, false_or, or_false, reduceCtorEq, Bool.false_eq_true, and_false, false_and, eq_self, true_and, and_true, zero_ne, ↓br_lt_t, ↓br_lt_f, ↓br_eq_t, ↓br_eq_f, ↓br_lz_t, ↓br_lz_f, ↓br_ez_t, ↓br_ez_f, ↓br_gz_t, ↓br_gz_f, jw_id, jin_t, jix_t, ↓ite_t, ↓ite_f, cO.s h, cO.r0 h, cO.r1 h, cO.r2 h, cO.r3 h, cO.r4 h, cO.r5 h, cO.r6 h, cO.r7 h, cO.r8 h, cO.r9 h, cO.r10 h, cO.o h, cO.x111 h, cO.x111p h, cO.x111k h, cO.x111t h, cO.x112 h, cO.x114 h, cO.x116 h, cO.x118 h, cO.x84 h, cO.x84r0 h, cO.x84r1 h, cO.x84r2 h, cO.x84r3 h, cO.x84r4 h, cO.x84r5 h, cO.x84r6 h, cO.x84r7 h, cO.x85 h, cO.x87 h, cO.x89 h, cO.x91 h, cO.x93 h, cO.x95 h, cO.x97 h, cO.x99 h, cO.x84f8 h, cO.x84f9 h, cO.x84f10 h, cO.x84f11 h, cO.x84f12 h, cO.x84f14 h, cO.x84f15 h, cO.x84f16 h, cO.x84f17 h]
theorem d_out {h : Nat} (hq : MQh w h H) (hv : mI w 241 = r) (hk : HOK H) (ri : RI H B r) : ∃ u, rn 291 (0, [(0, jvr 238)], [], w) = some (some (.inl (A35 H r).1), u) ∧ qM w u (A35 H r).2 := by
  have hs0 := hq.1.s0
  have hq0 : MQh (setI w 238 0 0) h H := hq.z
  have hv0 : mI (setI w 238 0 0) 241 = r := (mI_nb (by omega)).trans hv
  have e00 : rn 291 (0, [(0, jvr 238)], [], w) = rn 291 (5, [(0, jvr 238)], [], setI w 238 0 0) := by
    simp only [p291_0, p291_1, p291_2, jwd_c, jwd_0, Nat.reduceLeDiff, Nat.reduceEqDiff, Nat.reduceAdd, Nat.reduceSub, Nat.reduceMul, Int.reduceAdd, Int.reduceSub, Int.reduceMul, Int.reduceNeg, Int.reduceEq, Int.reduceLT, Int.reduceLE, jq_ldi_i, jq_ldl_l, jq_lda_a, jq_inc_i, jq_gs_t, jq_gsb_t, jq_gb_t, jq_gr_2, jq_gr_4, jq_gw_2, jq_s_t, jq_b_t, jg_c, jg_n, js_c, js_n, jrm_c, jrm_n, j2_i, j2_l, j2_a, jq_c_i, jq_c_l, jq_c_0, jq_c_n, jwd_le, jw_c0, mS_I, mS_R, mS_J, mN_I, mN_R, mN_J, mR_I, mI_R, mJ_I, mJ_R, mI_J, mR_J, ↓reduceIte, decide_true, or_true, true_or, and_self, false_or, or_false, reduceCtorEq, Bool.false_eq_true, and_false, false_and, eq_self, true_and, and_true, zero_ne, hs0]
  rw [e00]
  clear e00
  generalize hw0 : setI w 238 0 0 = w0 at *
  have hq1 := hq0
  obtain ⟨hm, hh, h3⟩ := hq0
  have hge := hh.ge
  have kc := hk.1.2.2.2.2.2
  have k3 := hk.2.2.1
  have h16 := ri.1.1
  unfold A35
  by_cases q : 0 ≤ H 0 12
  · rw [if_pos q]
    have c0 := RC ri.2.1 ri.2.2.1 (i := 0) (by omega) (by omega)
    have b0 := (ri.2.1 0 (by omega) (by omega)).2.1
    have e1 := m_cell (w := w0) (a := 241) (i := 0) hm.s3 hv0 (by omega) (by omega) (by omega) (by omega)
    obtain ⟨F, Q, e2, eF⟩ := m_far hm hh h3 hk (x := gCell r 0) (o := some 241) (Bk := fun c => gSO r c (-1)) (by omega) (by omega) c0.2.1 (Or.inr ⟨241, r, B, rfl, by omega, hm.s3, hv0, ri.1, ri.2.1, ri.2.2.1, fun c => Iff.rfl⟩)
    have e3 := eF (H 0 12) q (by omega)
    have hd := gDist_bd (Bk := fun c => gSO r c (-1)) (f := gCell r 0) (c := H 0 12) hk c0.2.1
    have K : Km 242 w0 (setA (setA w0 245 F) 246 Q) := (Km.A (Or.inr ⟨by omega, by omega⟩) (by omega)).tr (Km.A (Or.inr ⟨by omega, by omega⟩) (by omega))
    refine ⟨_, ?_, qM.fut hw0 K⟩
    rw [← e3]
    simp (disch := omega) only [p291_0, p291_1, p291_2, p291_5, p291_6, p291_9n, p291_9s, p291_12, p291_13, p291_14, p291_17, p291_18, p291_19, p291_22, p291_25, p291_27, p291_30, p291_31, p291_33, p291_36, p291_37, p291_38, p291_39, p291_42, p291_43, p291_46, p291_47, p291_50, p291_53, p291_54, p291_55, p291_58, p291_59, p291_62, p291_65, p291_66, p291_69, p213_0, p213_1, p213_2, p213_5, p213_6, p213_7, p213_10, p213_11, p176_0, p176_1, p176_2, p176_5, p176_6, p176_7, p176_10, p176_11, p297_0, p297_1, p297_2, p297_5, p297_6, p297_7, p298_0, p298_1, p298_2, p298_5, p298_6, p298_7, jwd_c, jwd_0, Nat.reduceLeDiff, Nat.reduceEqDiff, Nat.reduceAdd, Nat.reduceSub, Nat.reduceMul, Int.reduceAdd, Int.reduceSub, Int.reduceMul, Int.reduceNeg, Int.reduceEq, Int.reduceLT, Int.reduceLE, jq_ldi_i, jq_ldl_l, jq_lda_a, jq_inc_i, jq_gs_t, jq_gsb_t, jq_gb_t, jq_gr_2, jq_gr_4, jq_gw_2, jq_s_t, jq_b_t, jg_c, jg_n, js_c, js_n, jrm_c, jrm_n, j2_i, j2_l, j2_a, jq_c_i, jq_c_l, jq_c_0, jq_c_n, jwd_le, jw_c0, mS_I, mS_R, mS_J, mN_I, mN_R, mN_J, mR_I, mI_R, mJ_I, mJ_R, mI_J, mR_J, ↓reduceIte, decide_true, or_true, true_or, and_self, false_or, or_false, reduceCtorEq, Bool.false_eq_true, and_false, false_and, eq_self, true_and, and_true, zero_ne, ↓br_lt_t, ↓br_lt_f, ↓br_eq_t, ↓br_eq_f, ↓br_lz_t, ↓br_lz_f, ↓br_ez_t, ↓br_ez_f, ↓br_gz_t, ↓br_gz_f, jw_id, jin_t, jix_t, ↓ite_t, ↓ite_f, mI_A, mI_nA, up1_s, up1_n, mS_A, mR_A, mJ_A, mN_A, setI_A, setA_A, sw_238, sw_239, sw_240, sw_241, sw_242, sw_243, sw_244, sw_245, sw_246, sw_247, sw_248, sw_249, sw_250, sw_251, Int.reduceToNat, Int.toNat_natCast, MO.s0 hm, MO.s1 hm, MO.s2 hm, MO.s3 hm, MO.s4 hm, MO.s5 hm, MO.s6 hm, MO.s7 hm, MO.s8 hm, MO.s9 hm, MO.s10 hm, MO.s11 hm, MO.s12 hm, MO.s13 hm, MO.r1 hm, MO.r2 hm, MO.r3 hm, MO.r4 hm, MO.r5 hm, MO.r6 hm, MO.r7 hm, MO.r8 hm, MO.r9 hm, MO.r10 hm, MO.r11 hm, MO.r12 hm, MO.r13 hm, MH.s hh, MH.s1 hh, MH.s2 hh, MH.s3 hh, MH.s4 hh, MH.s5 hh, MH.s6 hh, MH.s7 hh, MH.s8 hh, MH.s9 hh, MH.s10 hh, MH.s11 hh, MH.s12 hh, MH.s13 hh, MH.s14 hh, MH.s15 hh, MH.r1 hh, MH.r2 hh, MH.r3 hh, MH.r4 hh, MH.r5 hh, MH.r6 hh, MH.r7 hh, MH.r8 hh, MH.r9 hh, MH.r10 hh, MH.r11 hh, MH.r12 hh, MH.r13 hh, MH.r14 hh, MH.r15 hh, MH.f0 hh, MH.f1 hh, MH.f2 hh, MH.f3 hh, MH.f4 hh, MH.f5 hh, MH.f6 hh, MH.f7 hh, MH.f8 hh, MH.f9 hh, MH.f10 hh, MH.f11 hh, MH.f12 hh, MH.f13 hh, MH.f14 hh, MH.f15 hh, MH.f16 hh, MH.a1 hh, MH.a2 hh, MH.a3 hh, MH.a4 hh, MH.a5 hh, MH.a6 hh, MH.a7 hh, MH.a8 hh, MH.a9 hh, MH.a10 hh, MH.a11 hh, MH.a12 hh, MH.a13 hh, MH.a14 hh, MH.a15 hh, h3, hv0, e1, e2]
  · rw [if_neg q]
    refine ⟨_, ?_, qM.triv hw0⟩
    simp (disch := omega) only [p291_0, p291_1, p291_2, p291_5, p291_6, p291_9n, p291_9s, p291_12, p291_13, p291_14, p291_17, p291_18, p291_19, p291_22, p291_25, p291_27, p291_30, p291_31, p291_33, p291_36, p291_37, p291_38, p291_39, p291_42, p291_43, p291_46, p291_47, p291_50, p291_53, p291_54, p291_55, p291_58, p291_59, p291_62, p291_65, p291_66, p291_69, p213_0, p213_1, p213_2, p213_5, p213_6, p213_7, p213_10, p213_11, p176_0, p176_1, p176_2, p176_5, p176_6, p176_7, p176_10, p176_11, p297_0, p297_1, p297_2, p297_5, p297_6, p297_7, p298_0, p298_1, p298_2, p298_5, p298_6, p298_7, jwd_c, jwd_0, Nat.reduceLeDiff, Nat.reduceEqDiff, Nat.reduceAdd, Nat.reduceSub, Nat.reduceMul, Int.reduceAdd, Int.reduceSub, Int.reduceMul, Int.reduceNeg, Int.reduceEq, Int.reduceLT, Int.reduceLE, jq_ldi_i, jq_ldl_l, jq_lda_a, jq_inc_i, jq_gs_t, jq_gsb_t, jq_gb_t, jq_gr_2, jq_gr_4, jq_gw_2, jq_s_t, jq_b_t, jg_c, jg_n, js_c, js_n, jrm_c, jrm_n, j2_i, j2_l, j2_a, jq_c_i, jq_c_l, jq_c_0, jq_c_n, jwd_le, jw_c0, mS_I, mS_R, mS_J, mN_I, mN_R, mN_J, mR_I, mI_R, mJ_I, mJ_R, mI_J, mR_J, ↓reduceIte, decide_true, or_true, true_or, and_self, false_or, or_false, reduceCtorEq, Bool.false_eq_true, and_false, false_and, eq_self, true_and, and_true, zero_ne, ↓br_lt_t, ↓br_lt_f, ↓br_eq_t, ↓br_eq_f, ↓br_lz_t, ↓br_lz_f, ↓br_ez_t, ↓br_ez_f, ↓br_gz_t, ↓br_gz_f, jw_id, jin_t, jix_t, ↓ite_t, ↓ite_f, MO.s0 hm, MO.s1 hm, MO.s2 hm, MO.s3 hm, MO.s4 hm, MO.s5 hm, MO.s6 hm, MO.s7 hm, MO.s8 hm, MO.s9 hm, MO.s10 hm, MO.s11 hm, MO.s12 hm, MO.s13 hm, MO.r1 hm, MO.r2 hm, MO.r3 hm, MO.r4 hm, MO.r5 hm, MO.r6 hm, MO.r7 hm, MO.r8 hm, MO.r9 hm, MO.r10 hm, MO.r11 hm, MO.r12 hm, MO.r13 hm, MH.s hh, MH.s1 hh, MH.s2 hh, MH.s3 hh, MH.s4 hh, MH.s5 hh, MH.s6 hh, MH.s7 hh, MH.s8 hh, MH.s9 hh, MH.s10 hh, MH.s11 hh, MH.s12 hh, MH.s13 hh, MH.s14 hh, MH.s15 hh, MH.r1 hh, MH.r2 hh, MH.r3 hh, MH.r4 hh, MH.r5 hh, MH.r6 hh, MH.r7 hh, MH.r8 hh, MH.r9 hh, MH.r10 hh, MH.r11 hh, MH.r12 hh, MH.r13 hh, MH.r14 hh, MH.r15 hh, MH.f0 hh, MH.f1 hh, MH.f2 hh, MH.f3 hh, MH.f4 hh, MH.f5 hh, MH.f6 hh, MH.f7 hh, MH.f8 hh, MH.f9 hh, MH.f10 hh, MH.f11 hh, MH.f12 hh, MH.f13 hh, MH.f14 hh, MH.f15 hh, MH.f16 hh, MH.a1 hh, MH.a2 hh, MH.a3 hh, MH.a4 hh, MH.a5 hh, MH.a6 hh, MH.a7 hh, MH.a8 hh, MH.a9 hh, MH.a10 hh, MH.a11 hh, MH.a12 hh, MH.a13 hh, MH.a14 hh, MH.a15 hh, h3]
end LAY
