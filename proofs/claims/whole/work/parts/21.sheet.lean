/-! Sheet: its methods. -/
theorem idx_lt {l n k c : Nat} (hl : l < n) (hk : k < c) : l * c + k < n * c := by
  have : (l + 1) * c ≤ n * c := Nat.mul_le_mul_right c hl
  rw [Nat.add_mul] at this
  omega
theorem Sh.bd {w : jmW} {a c r n : Nat} {F : List Int} (h : Sh w a c r F n) : n * c ≤ 5000 ∧ n * c ≤ r * c ∧ n ≤ 5000 ∧ r ≤ 5000 ∧ (c ≤ 5000 ∨ r = 0) := by
  obtain ⟨h1, h2, h3, h4, h5, h6, h7, h8, h9, h10, h11⟩ := h
  have hnr : n * c ≤ r * c := Nat.mul_le_mul_right c h8
  have hr : r ≤ 5000 := by
    have : r * 1 ≤ r * c := Nat.mul_le_mul_left r h9
    omega
  refine ⟨by omega, hnr, by omega, hr, ?_⟩
  rcases Nat.eq_zero_or_pos r with z | z
  · exact Or.inr z
  · have : 1 * c ≤ r * c := Nat.mul_le_mul_right c z
    omega
theorem sh_count {w : jmW} {a c r n : Nat} {F : List Int} (h : Sh w a c r F n) : rn 12 (0, [(0, jvr a)], [], w) = some (some (.inl n), w) := by
  obtain ⟨h1, h2, h3, h4, h5, h6, h7, h8, h9, h10, h11⟩ := h
  simp only [p12_0, p12_1, p12_4, jwd_c, jwd_0, Nat.reduceLeDiff, Nat.reduceEqDiff, Nat.reduceAdd, Nat.reduceSub, Nat.reduceMul, Int.reduceAdd, Int.reduceSub, Int.reduceMul, Int.reduceNeg, Int.reduceEq, Int.reduceLT, Int.reduceLE, jq_ldi_i, jq_ldl_l, jq_lda_a, jq_inc_i, jq_gs_t, jq_gsb_t, jq_gb_t, jq_gr_2, jq_gr_4, jq_gw_2, jq_s_t, jq_b_t, jg_c, jg_n, js_c, js_n, jrm_c, jrm_n, j2_i, j2_l, j2_a, jq_c_i, jq_c_l, jq_c_0, jq_c_n, jwd_le, jw_c0, mS_I, mS_R, mS_J, mN_I, mN_R, mN_J, mR_I, mI_R, mJ_I, mJ_R, mI_J, mR_J, ↓reduceIte, decide_true, or_true, true_or, and_self, false_or, or_false, reduceCtorEq, Bool.false_eq_true, and_false, false_and, eq_self, true_and, and_true, zero_ne, h1, h6]
theorem sh_get {w : jmW} {a c r n : Nat} {F : List Int} {l k : Int} (h : Sh w a c r F n) (hl1 : -2147483648 ≤ l) (hl2 : l < 2147483648) (hk1 : -2147483648 ≤ k) (hk2 : k < 2147483648) : rn 23 (0, [(0, jvr a), (1, .inl l), (2, .inl k)], [], w) = some (some (.inl (if 0 ≤ l ∧ l < n ∧ 0 ≤ k ∧ k < c then F.getD (l.toNat * c + k.toNat) 0 else 0)), w) := by
  obtain ⟨b1, b2, b3, b4, b5⟩ := h.bd
  obtain ⟨h1, h2, h3, h4, h5, h6, h7, h8, h9, h10, h11⟩ := h
  by_cases c1 : 0 ≤ l
  · by_cases c2 : l < n
    · by_cases c3 : 0 ≤ k
      · by_cases c4 : k < c
        · rw [if_pos ⟨c1, c2, c3, c4⟩]
          obtain ⟨ln, rfl⟩ := Int.eq_ofNat_of_zero_le c1
          obtain ⟨kn, rfl⟩ := Int.eq_ofNat_of_zero_le c3
          have hm : ln * c + kn < n * c := idx_lt (by omega) (by omega)
          have e1 : (ln : Int) * (c : Int) + (kn : Int) = ((ln * c + kn : Nat) : Int) := by push_cast; rfl
          generalize hq : ln * c + kn = q at hm e1
          have h12 := h11 q (by omega)
          simp (disch := omega) only [p23_0, p23_1, p23_4, p23_5, p23_6, p23_9, p23_12, p23_13, p23_16, p23_17, p23_18, p23_21, p23_24, p23_25, p23_28, p23_29, p23_30, p23_31, p23_32, p23_35, p23_36, p23_37, p23_38, p23_40, p23_41, p23_44, p23_46, p23_49, p23_51, p23_52, p23_55, p23_56, p23_59, p23_60, p23_63, p23_65, p23_66, p23_69, p23_70, jwd_c, jwd_0, Nat.reduceLeDiff, Nat.reduceEqDiff, Nat.reduceAdd, Nat.reduceSub, Nat.reduceMul, Int.reduceAdd, Int.reduceSub, Int.reduceMul, Int.reduceNeg, Int.reduceEq, Int.reduceLT, Int.reduceLE, jq_ldi_i, jq_ldl_l, jq_lda_a, jq_inc_i, jq_gs_t, jq_gsb_t, jq_gb_t, jq_gr_2, jq_gr_4, jq_gw_2, jq_s_t, jq_b_t, jg_c, jg_n, js_c, js_n, jrm_c, jrm_n, j2_i, j2_l, j2_a, jq_c_i, jq_c_l, jq_c_0, jq_c_n, jwd_le, jw_c0, mS_I, mS_R, mS_J, mN_I, mN_R, mN_J, mR_I, mI_R, mJ_I, mJ_R, mI_J, mR_J, ↓reduceIte, decide_true, or_true, true_or, and_self, false_or, or_false, reduceCtorEq, Bool.false_eq_true, and_false, false_and, eq_self, true_and, and_true, zero_ne, ↓br_lt_t, ↓br_lt_f, ↓br_eq_t, ↓br_eq_f, ↓br_lz_t, ↓br_lz_f, ↓br_ez_t, ↓br_ez_f, ↓br_gz_t, ↓br_gz_f, jw_id, jin_t, jix_t, h1, h2, h3, h4, h6, e1, Int.toNat_natCast, h12, hq]
        · rw [if_neg (fun z => c4 z.2.2.2)]
          simp (disch := omega) only [p23_0, p23_1, p23_4, p23_5, p23_6, p23_9, p23_12, p23_13, p23_16, p23_17, p23_18, p23_21, p23_24, p23_25, p23_28, p23_29, p23_30, p23_31, p23_32, p23_35, p23_36, p23_37, p23_38, p23_40, p23_41, p23_44, p23_46, p23_49, p23_51, p23_52, p23_55, p23_56, p23_59, p23_60, p23_63, p23_65, p23_66, p23_69, p23_70, jwd_c, jwd_0, Nat.reduceLeDiff, Nat.reduceEqDiff, Nat.reduceAdd, Nat.reduceSub, Nat.reduceMul, Int.reduceAdd, Int.reduceSub, Int.reduceMul, Int.reduceNeg, Int.reduceEq, Int.reduceLT, Int.reduceLE, jq_ldi_i, jq_ldl_l, jq_lda_a, jq_inc_i, jq_gs_t, jq_gsb_t, jq_gb_t, jq_gr_2, jq_gr_4, jq_gw_2, jq_s_t, jq_b_t, jg_c, jg_n, js_c, js_n, jrm_c, jrm_n, j2_i, j2_l, j2_a, jq_c_i, jq_c_l, jq_c_0, jq_c_n, jwd_le, jw_c0, mS_I, mS_R, mS_J, mN_I, mN_R, mN_J, mR_I, mI_R, mJ_I, mJ_R, mI_J, mR_J, ↓reduceIte, decide_true, or_true, true_or, and_self, false_or, or_false, reduceCtorEq, Bool.false_eq_true, and_false, false_and, eq_self, true_and, and_true, zero_ne, ↓br_lt_t, ↓br_lt_f, ↓br_eq_t, ↓br_eq_f, ↓br_lz_t, ↓br_lz_f, ↓br_ez_t, ↓br_ez_f, ↓br_gz_t, ↓br_gz_f, jw_id, jin_t, jix_t, h1, h2, h3, h4, h6]
      · rw [if_neg (fun z => c3 z.2.2.1)]
        simp (disch := omega) only [p23_0, p23_1, p23_4, p23_5, p23_6, p23_9, p23_12, p23_13, p23_16, p23_17, p23_18, p23_21, p23_24, p23_25, p23_28, p23_29, p23_30, p23_31, p23_32, p23_35, p23_36, p23_37, p23_38, p23_40, p23_41, p23_44, p23_46, p23_49, p23_51, p23_52, p23_55, p23_56, p23_59, p23_60, p23_63, p23_65, p23_66, p23_69, p23_70, jwd_c, jwd_0, Nat.reduceLeDiff, Nat.reduceEqDiff, Nat.reduceAdd, Nat.reduceSub, Nat.reduceMul, Int.reduceAdd, Int.reduceSub, Int.reduceMul, Int.reduceNeg, Int.reduceEq, Int.reduceLT, Int.reduceLE, jq_ldi_i, jq_ldl_l, jq_lda_a, jq_inc_i, jq_gs_t, jq_gsb_t, jq_gb_t, jq_gr_2, jq_gr_4, jq_gw_2, jq_s_t, jq_b_t, jg_c, jg_n, js_c, js_n, jrm_c, jrm_n, j2_i, j2_l, j2_a, jq_c_i, jq_c_l, jq_c_0, jq_c_n, jwd_le, jw_c0, mS_I, mS_R, mS_J, mN_I, mN_R, mN_J, mR_I, mI_R, mJ_I, mJ_R, mI_J, mR_J, ↓reduceIte, decide_true, or_true, true_or, and_self, false_or, or_false, reduceCtorEq, Bool.false_eq_true, and_false, false_and, eq_self, true_and, and_true, zero_ne, ↓br_lt_t, ↓br_lt_f, ↓br_eq_t, ↓br_eq_f, ↓br_lz_t, ↓br_lz_f, ↓br_ez_t, ↓br_ez_f, ↓br_gz_t, ↓br_gz_f, jw_id, jin_t, jix_t, h1, h2, h3, h4, h6]
    · rw [if_neg (fun z => c2 z.2.1)]
      simp (disch := omega) only [p23_0, p23_1, p23_4, p23_5, p23_6, p23_9, p23_12, p23_13, p23_16, p23_17, p23_18, p23_21, p23_24, p23_25, p23_28, p23_29, p23_30, p23_31, p23_32, p23_35, p23_36, p23_37, p23_38, p23_40, p23_41, p23_44, p23_46, p23_49, p23_51, p23_52, p23_55, p23_56, p23_59, p23_60, p23_63, p23_65, p23_66, p23_69, p23_70, jwd_c, jwd_0, Nat.reduceLeDiff, Nat.reduceEqDiff, Nat.reduceAdd, Nat.reduceSub, Nat.reduceMul, Int.reduceAdd, Int.reduceSub, Int.reduceMul, Int.reduceNeg, Int.reduceEq, Int.reduceLT, Int.reduceLE, jq_ldi_i, jq_ldl_l, jq_lda_a, jq_inc_i, jq_gs_t, jq_gsb_t, jq_gb_t, jq_gr_2, jq_gr_4, jq_gw_2, jq_s_t, jq_b_t, jg_c, jg_n, js_c, js_n, jrm_c, jrm_n, j2_i, j2_l, j2_a, jq_c_i, jq_c_l, jq_c_0, jq_c_n, jwd_le, jw_c0, mS_I, mS_R, mS_J, mN_I, mN_R, mN_J, mR_I, mI_R, mJ_I, mJ_R, mI_J, mR_J, ↓reduceIte, decide_true, or_true, true_or, and_self, false_or, or_false, reduceCtorEq, Bool.false_eq_true, and_false, false_and, eq_self, true_and, and_true, zero_ne, ↓br_lt_t, ↓br_lt_f, ↓br_eq_t, ↓br_eq_f, ↓br_lz_t, ↓br_lz_f, ↓br_ez_t, ↓br_ez_f, ↓br_gz_t, ↓br_gz_f, jw_id, jin_t, jix_t, h1, h2, h3, h4, h6]
  · rw [if_neg (fun z => c1 z.1)]
    simp (disch := omega) only [p23_0, p23_1, p23_4, p23_5, p23_6, p23_9, p23_12, p23_13, p23_16, p23_17, p23_18, p23_21, p23_24, p23_25, p23_28, p23_29, p23_30, p23_31, p23_32, p23_35, p23_36, p23_37, p23_38, p23_40, p23_41, p23_44, p23_46, p23_49, p23_51, p23_52, p23_55, p23_56, p23_59, p23_60, p23_63, p23_65, p23_66, p23_69, p23_70, jwd_c, jwd_0, Nat.reduceLeDiff, Nat.reduceEqDiff, Nat.reduceAdd, Nat.reduceSub, Nat.reduceMul, Int.reduceAdd, Int.reduceSub, Int.reduceMul, Int.reduceNeg, Int.reduceEq, Int.reduceLT, Int.reduceLE, jq_ldi_i, jq_ldl_l, jq_lda_a, jq_inc_i, jq_gs_t, jq_gsb_t, jq_gb_t, jq_gr_2, jq_gr_4, jq_gw_2, jq_s_t, jq_b_t, jg_c, jg_n, js_c, js_n, jrm_c, jrm_n, j2_i, j2_l, j2_a, jq_c_i, jq_c_l, jq_c_0, jq_c_n, jwd_le, jw_c0, mS_I, mS_R, mS_J, mN_I, mN_R, mN_J, mR_I, mI_R, mJ_I, mJ_R, mI_J, mR_J, ↓reduceIte, decide_true, or_true, true_or, and_self, false_or, or_false, reduceCtorEq, Bool.false_eq_true, and_false, false_and, eq_self, true_and, and_true, zero_ne, ↓br_lt_t, ↓br_lt_f, ↓br_eq_t, ↓br_eq_f, ↓br_lz_t, ↓br_lz_f, ↓br_ez_t, ↓br_ez_f, ↓br_gz_t, ↓br_gz_f, jw_id, jin_t, jix_t, h1, h2, h3, h4, h6]
/-- a line that is there -/
theorem sh_get_in {w : jmW} {a c r n l k : Nat} {F : List Int} (h : Sh w a c r F n) (hl : l < n) (hk : k < c) : rn 23 (0, [(0, jvr a), (1, .inl l), (2, .inl k)], [], w) = some (some (.inl (F.getD (l * c + k) 0)), w) := by
  obtain ⟨b1, b2, b3, b4, b5⟩ := h.bd
  have h8 : n ≤ r := h.2.2.2.2.2.2.2.1
  rw [sh_get h (by omega) (by omega) (by omega) (by omega), if_pos ⟨by omega, by omega, by omega, by omega⟩]
  rfl
theorem sh_put {w : jmW} {a c r n : Nat} {F : List Int} {l k v : Int} (h : Sh w a c r F n) (hl1 : -2147483648 ≤ l) (hl2 : l < 2147483648) (hk1 : -2147483648 ≤ k) (hk2 : k < 2147483648) : rn 17 (0, [(0, jvr a), (1, .inl l), (2, .inl k), (3, .inl v)], [], w) = some (none, if 0 ≤ l ∧ l < n ∧ 0 ≤ k ∧ k < c then setI w (a + 1) (l.toNat * c + k.toNat) v else w) := by
  obtain ⟨b1, b2, b3, b4, b5⟩ := h.bd
  obtain ⟨h1, h2, h3, h4, h5, h6, h7, h8, h9, h10, h11⟩ := h
  by_cases c1 : 0 ≤ l
  · by_cases c2 : l < n
    · by_cases c3 : 0 ≤ k
      · by_cases c4 : k < c
        · rw [if_pos ⟨c1, c2, c3, c4⟩]
          obtain ⟨ln, rfl⟩ := Int.eq_ofNat_of_zero_le c1
          obtain ⟨kn, rfl⟩ := Int.eq_ofNat_of_zero_le c3
          have hm : ln * c + kn < n * c := idx_lt (by omega) (by omega)
          have e1 : (ln : Int) * (c : Int) + (kn : Int) = ((ln * c + kn : Nat) : Int) := by push_cast; rfl
          generalize hq : ln * c + kn = q at hm e1
          simp (disch := omega) only [p17_0, p17_1, p17_4, p17_5, p17_6, p17_9, p17_12, p17_13, p17_16, p17_17, p17_18, p17_21, p17_24, p17_25, p17_28, p17_29, p17_31, p17_32, p17_33, p17_36, p17_37, p17_38, p17_39, p17_41, p17_43, p17_46, p17_48, p17_51, p17_53, p17_54, p17_57, p17_58, p17_61, p17_62, p17_65, p17_67, p17_68, p17_69, jwd_c, jwd_0, Nat.reduceLeDiff, Nat.reduceEqDiff, Nat.reduceAdd, Nat.reduceSub, Nat.reduceMul, Int.reduceAdd, Int.reduceSub, Int.reduceMul, Int.reduceNeg, Int.reduceEq, Int.reduceLT, Int.reduceLE, jq_ldi_i, jq_ldl_l, jq_lda_a, jq_inc_i, jq_gs_t, jq_gsb_t, jq_gb_t, jq_gr_2, jq_gr_4, jq_gw_2, jq_s_t, jq_b_t, jg_c, jg_n, js_c, js_n, jrm_c, jrm_n, j2_i, j2_l, j2_a, jq_c_i, jq_c_l, jq_c_0, jq_c_n, jwd_le, jw_c0, mS_I, mS_R, mS_J, mN_I, mN_R, mN_J, mR_I, mI_R, mJ_I, mJ_R, mI_J, mR_J, ↓reduceIte, decide_true, or_true, true_or, and_self, false_or, or_false, reduceCtorEq, Bool.false_eq_true, and_false, false_and, eq_self, true_and, and_true, zero_ne, ↓br_lt_t, ↓br_lt_f, ↓br_eq_t, ↓br_eq_f, ↓br_lz_t, ↓br_lz_f, ↓br_ez_t, ↓br_ez_f, ↓br_gz_t, ↓br_gz_f, jw_id, jin_t, jix_t, h1, h2, h3, h4, h6, e1, Int.toNat_natCast, hq]
        · rw [if_neg (fun z => c4 z.2.2.2)]
          simp (disch := omega) only [p17_0, p17_1, p17_4, p17_5, p17_6, p17_9, p17_12, p17_13, p17_16, p17_17, p17_18, p17_21, p17_24, p17_25, p17_28, p17_29, p17_31, p17_32, p17_33, p17_36, p17_37, p17_38, p17_39, p17_41, p17_43, p17_46, p17_48, p17_51, p17_53, p17_54, p17_57, p17_58, p17_61, p17_62, p17_65, p17_67, p17_68, p17_69, jwd_c, jwd_0, Nat.reduceLeDiff, Nat.reduceEqDiff, Nat.reduceAdd, Nat.reduceSub, Nat.reduceMul, Int.reduceAdd, Int.reduceSub, Int.reduceMul, Int.reduceNeg, Int.reduceEq, Int.reduceLT, Int.reduceLE, jq_ldi_i, jq_ldl_l, jq_lda_a, jq_inc_i, jq_gs_t, jq_gsb_t, jq_gb_t, jq_gr_2, jq_gr_4, jq_gw_2, jq_s_t, jq_b_t, jg_c, jg_n, js_c, js_n, jrm_c, jrm_n, j2_i, j2_l, j2_a, jq_c_i, jq_c_l, jq_c_0, jq_c_n, jwd_le, jw_c0, mS_I, mS_R, mS_J, mN_I, mN_R, mN_J, mR_I, mI_R, mJ_I, mJ_R, mI_J, mR_J, ↓reduceIte, decide_true, or_true, true_or, and_self, false_or, or_false, reduceCtorEq, Bool.false_eq_true, and_false, false_and, eq_self, true_and, and_true, zero_ne, ↓br_lt_t, ↓br_lt_f, ↓br_eq_t, ↓br_eq_f, ↓br_lz_t, ↓br_lz_f, ↓br_ez_t, ↓br_ez_f, ↓br_gz_t, ↓br_gz_f, jw_id, jin_t, jix_t, h1, h2, h3, h4, h6]
      · rw [if_neg (fun z => c3 z.2.2.1)]
        simp (disch := omega) only [p17_0, p17_1, p17_4, p17_5, p17_6, p17_9, p17_12, p17_13, p17_16, p17_17, p17_18, p17_21, p17_24, p17_25, p17_28, p17_29, p17_31, p17_32, p17_33, p17_36, p17_37, p17_38, p17_39, p17_41, p17_43, p17_46, p17_48, p17_51, p17_53, p17_54, p17_57, p17_58, p17_61, p17_62, p17_65, p17_67, p17_68, p17_69, jwd_c, jwd_0, Nat.reduceLeDiff, Nat.reduceEqDiff, Nat.reduceAdd, Nat.reduceSub, Nat.reduceMul, Int.reduceAdd, Int.reduceSub, Int.reduceMul, Int.reduceNeg, Int.reduceEq, Int.reduceLT, Int.reduceLE, jq_ldi_i, jq_ldl_l, jq_lda_a, jq_inc_i, jq_gs_t, jq_gsb_t, jq_gb_t, jq_gr_2, jq_gr_4, jq_gw_2, jq_s_t, jq_b_t, jg_c, jg_n, js_c, js_n, jrm_c, jrm_n, j2_i, j2_l, j2_a, jq_c_i, jq_c_l, jq_c_0, jq_c_n, jwd_le, jw_c0, mS_I, mS_R, mS_J, mN_I, mN_R, mN_J, mR_I, mI_R, mJ_I, mJ_R, mI_J, mR_J, ↓reduceIte, decide_true, or_true, true_or, and_self, false_or, or_false, reduceCtorEq, Bool.false_eq_true, and_false, false_and, eq_self, true_and, and_true, zero_ne, ↓br_lt_t, ↓br_lt_f, ↓br_eq_t, ↓br_eq_f, ↓br_lz_t, ↓br_lz_f, ↓br_ez_t, ↓br_ez_f, ↓br_gz_t, ↓br_gz_f, jw_id, jin_t, jix_t, h1, h2, h3, h4, h6]
    · rw [if_neg (fun z => c2 z.2.1)]
      simp (disch := omega) only [p17_0, p17_1, p17_4, p17_5, p17_6, p17_9, p17_12, p17_13, p17_16, p17_17, p17_18, p17_21, p17_24, p17_25, p17_28, p17_29, p17_31, p17_32, p17_33, p17_36, p17_37, p17_38, p17_39, p17_41, p17_43, p17_46, p17_48, p17_51, p17_53, p17_54, p17_57, p17_58, p17_61, p17_62, p17_65, p17_67, p17_68, p17_69, jwd_c, jwd_0, Nat.reduceLeDiff, Nat.reduceEqDiff, Nat.reduceAdd, Nat.reduceSub, Nat.reduceMul, Int.reduceAdd, Int.reduceSub, Int.reduceMul, Int.reduceNeg, Int.reduceEq, Int.reduceLT, Int.reduceLE, jq_ldi_i, jq_ldl_l, jq_lda_a, jq_inc_i, jq_gs_t, jq_gsb_t, jq_gb_t, jq_gr_2, jq_gr_4, jq_gw_2, jq_s_t, jq_b_t, jg_c, jg_n, js_c, js_n, jrm_c, jrm_n, j2_i, j2_l, j2_a, jq_c_i, jq_c_l, jq_c_0, jq_c_n, jwd_le, jw_c0, mS_I, mS_R, mS_J, mN_I, mN_R, mN_J, mR_I, mI_R, mJ_I, mJ_R, mI_J, mR_J, ↓reduceIte, decide_true, or_true, true_or, and_self, false_or, or_false, reduceCtorEq, Bool.false_eq_true, and_false, false_and, eq_self, true_and, and_true, zero_ne, ↓br_lt_t, ↓br_lt_f, ↓br_eq_t, ↓br_eq_f, ↓br_lz_t, ↓br_lz_f, ↓br_ez_t, ↓br_ez_f, ↓br_gz_t, ↓br_gz_f, jw_id, jin_t, jix_t, h1, h2, h3, h4, h6]
  · rw [if_neg (fun z => c1 z.1)]
    simp (disch := omega) only [p17_0, p17_1, p17_4, p17_5, p17_6, p17_9, p17_12, p17_13, p17_16, p17_17, p17_18, p17_21, p17_24, p17_25, p17_28, p17_29, p17_31, p17_32, p17_33, p17_36, p17_37, p17_38, p17_39, p17_41, p17_43, p17_46, p17_48, p17_51, p17_53, p17_54, p17_57, p17_58, p17_61, p17_62, p17_65, p17_67, p17_68, p17_69, jwd_c, jwd_0, Nat.reduceLeDiff, Nat.reduceEqDiff, Nat.reduceAdd, Nat.reduceSub, Nat.reduceMul, Int.reduceAdd, Int.reduceSub, Int.reduceMul, Int.reduceNeg, Int.reduceEq, Int.reduceLT, Int.reduceLE, jq_ldi_i, jq_ldl_l, jq_lda_a, jq_inc_i, jq_gs_t, jq_gsb_t, jq_gb_t, jq_gr_2, jq_gr_4, jq_gw_2, jq_s_t, jq_b_t, jg_c, jg_n, js_c, js_n, jrm_c, jrm_n, j2_i, j2_l, j2_a, jq_c_i, jq_c_l, jq_c_0, jq_c_n, jwd_le, jw_c0, mS_I, mS_R, mS_J, mN_I, mN_R, mN_J, mR_I, mI_R, mJ_I, mJ_R, mI_J, mR_J, ↓reduceIte, decide_true, or_true, true_or, and_self, false_or, or_false, reduceCtorEq, Bool.false_eq_true, and_false, false_and, eq_self, true_and, and_true, zero_ne, ↓br_lt_t, ↓br_lt_f, ↓br_eq_t, ↓br_eq_f, ↓br_lz_t, ↓br_lz_f, ↓br_ez_t, ↓br_ez_f, ↓br_gz_t, ↓br_gz_f, jw_id, jin_t, jix_t, h1, h2, h3, h4, h6]
theorem sh_put_in {w : jmW} {a c r n l k : Nat} {F : List Int} {v : Int} (h : Sh w a c r F n) (hl : l < n) (hk : k < c) : rn 17 (0, [(0, jvr a), (1, .inl l), (2, .inl k), (3, .inl v)], [], w) = some (none, setI w (a + 1) (l * c + k) v) := by
  obtain ⟨b1, b2, b3, b4, b5⟩ := h.bd
  have h8 : n ≤ r := h.2.2.2.2.2.2.2.1
  rw [sh_put h (by omega) (by omega) (by omega) (by omega), if_pos ⟨by omega, by omega, by omega, by omega⟩]
  rfl
theorem Sh.put {w : jmW} {a c r n p : Nat} {F : List Int} {v : Int} (h : Sh w a c r F n) : Sh (setI w (a + 1) p v) a c r (F.set p v) n := by
  obtain ⟨h1, h2, h3, h4, h5, h6, h7, h8, h9, h10, h11⟩ := h
  have e : mI (setI w (a + 1) p v) a = mI w a := mI_nb (by omega)
  refine ⟨h1, h2, h3, by rw [e]; exact h4, by rw [e]; exact h5, by rw [e]; exact h6, by rw [List.length_set]; exact h7, h8, h9, h10, fun k hk => ?_⟩
  rw [List.length_set] at hk
  by_cases hkp : k = p
  · subst hkp
    rw [mI_s, List.getD_eq_getElem?_getD, List.getElem?_set_self hk]
    rfl
  · rw [mI_nk hkp, List.getD_eq_getElem?_getD, List.getElem?_set_ne (fun z => hkp z.symm), ← List.getD_eq_getElem?_getD]
    exact h11 k hk
theorem rn_w {i pc : Nat} {lv : jmL} {st : List jmV} {w u : jmW} (h : w = u) : rn i (pc, lv, st, w) = rn i (pc, lv, st, u) := by rw [h]
theorem put_raw {w : jmW} {a c r n l k : Nat} {v : Int} (h1 : mS w a = (1, 5, 0)) (h2 : mS w (a + 1) = (2, 0, r * c)) (h3 : mR w a 0 = some (a + 1)) (h4 : mI w a 1 = c) (h6 : mI w a 3 = n) (h8 : n ≤ r) (h10 : r * c ≤ 5000) (hr : r ≤ 5000) (hc : c ≤ 5000) (hl : l < n) (hk : k < c) : rn 17 (0, [(0, jvr a), (1, .inl l), (2, .inl k), (3, .inl v)], [], w) = some (none, setI w (a + 1) (l * c + k) v) := by
  have hm : l * c + k < n * c := idx_lt hl hk
  have hnr : n * c ≤ r * c := Nat.mul_le_mul_right c h8
  have e1 : (l : Int) * (c : Int) + (k : Int) = ((l * c + k : Nat) : Int) := by push_cast; rfl
  generalize hq : l * c + k = q at hm e1
  simp (disch := omega) only [p17_0, p17_1, p17_4, p17_5, p17_6, p17_9, p17_12, p17_13, p17_16, p17_17, p17_18, p17_21, p17_24, p17_25, p17_28, p17_29, p17_31, p17_32, p17_33, p17_36, p17_37, p17_38, p17_39, p17_41, p17_43, p17_46, p17_48, p17_51, p17_53, p17_54, p17_57, p17_58, p17_61, p17_62, p17_65, p17_67, p17_68, p17_69, jwd_c, jwd_0, Nat.reduceLeDiff, Nat.reduceEqDiff, Nat.reduceAdd, Nat.reduceSub, Nat.reduceMul, Int.reduceAdd, Int.reduceSub, Int.reduceMul, Int.reduceNeg, Int.reduceEq, Int.reduceLT, Int.reduceLE, jq_ldi_i, jq_ldl_l, jq_lda_a, jq_inc_i, jq_gs_t, jq_gsb_t, jq_gb_t, jq_gr_2, jq_gr_4, jq_gw_2, jq_s_t, jq_b_t, jg_c, jg_n, js_c, js_n, jrm_c, jrm_n, j2_i, j2_l, j2_a, jq_c_i, jq_c_l, jq_c_0, jq_c_n, jwd_le, jw_c0, mS_I, mS_R, mS_J, mN_I, mN_R, mN_J, mR_I, mI_R, mJ_I, mJ_R, mI_J, mR_J, ↓reduceIte, decide_true, or_true, true_or, and_self, false_or, or_false, reduceCtorEq, Bool.false_eq_true, and_false, false_and, eq_self, true_and, and_true, zero_ne, ↓br_lt_t, ↓br_lt_f, ↓br_eq_t, ↓br_eq_f, ↓br_lz_t, ↓br_lz_f, ↓br_ez_t, ↓br_ez_f, ↓br_gz_t, ↓br_gz_f, jw_id, jin_t, jix_t, h1, h2, h3, h4, h6, e1, Int.toNat_natCast]
/-- a whole row of numbers set -/
def setA (w : jmW) (a : Nat) (f : Nat → Int) : jmW := (mS w, up1 (mI w) a f, mR w, mJ w, mN w, mK w)
theorem mS_A (w : jmW) (a : Nat) (f : Nat → Int) : mS (setA w a f) = mS w := rfl
theorem mR_A (w : jmW) (a : Nat) (f : Nat → Int) : mR (setA w a f) = mR w := rfl
theorem mJ_A (w : jmW) (a : Nat) (f : Nat → Int) : mJ (setA w a f) = mJ w := rfl
theorem mN_A (w : jmW) (a : Nat) (f : Nat → Int) : mN (setA w a f) = mN w := rfl
theorem mI_A (w : jmW) (a : Nat) (f : Nat → Int) : mI (setA w a f) a = f := if_pos rfl
theorem mI_nA {w : jmW} {a b : Nat} {f : Nat → Int} (h : b ≠ a) : mI (setA w a f) b = mI w b := if_neg h
theorem setA_self (w : jmW) (a : Nat) : setA w a (mI w a) = w := by
  have e : up1 (mI w) a (mI w a) = mI w := by
    funext b
    unfold up1
    by_cases h : b = a
    · rw [if_pos h, h]
    · rw [if_neg h]
  unfold setA
  rw [e]
  rfl
theorem setI_A (w : jmW) (a k : Nat) (x : Int) : setI w a k x = setA w a (up1 (mI w a) k x) := by
  have e : up2 (mI w) a k x = up1 (mI w) a (up1 (mI w a) k x) := by
    funext b j
    unfold up2 up1
    by_cases h : b = a
    · subst h
      by_cases h2 : j = k <;> simp [h2]
    · simp [h]
  unfold setI setA
  rw [e]
theorem setA_A (w : jmW) (a : Nat) (f g : Nat → Int) : setA (setA w a f) a g = setA w a g := by
  have e : up1 (up1 (mI w) a f) a g = up1 (mI w) a g := by
    funext b
    unfold up1
    by_cases h : b = a <;> simp [h]
  show (mS w, up1 (up1 (mI w) a f) a g, mR w, mJ w, mN w, mK w) = _
  rw [e]
  rfl
theorem setI_setA {w : jmW} {a b k : Nat} {x : Int} {g : Nat → Int} (h : a ≠ b) : setI (setA w b g) a k x = setA (setI w a k x) b g := by
  have e : up2 (up1 (mI w) b g) a k x = up1 (up2 (mI w) a k x) b g := by
    funext c j
    unfold up1 up2
    by_cases h1 : c = b
    · subst h1
      simp [Ne.symm h]
    · simp [h1]
  show (mS w, up2 (up1 (mI w) b g) a k x, mR w, mJ w, mN w, mK w) = _
  rw [e]
  rfl
theorem setA_f {w : jmW} {a : Nat} {f g : Nat → Int} (h : ∀ k, f k = g k) : setA w a f = setA w a g := by
  have : f = g := funext h
  rw [this]
theorem Fr.A {P : Nat → Prop} {w : jmW} {a : Nat} {f : Nat → Int} (h : P a) : Fr P w (setA w a f) := by
  refine ⟨rfl, rfl, rfl, fun b hb => ⟨?_, rfl, rfl⟩⟩
  exact mI_nA (fun z => hb (by rw [z]; exact h))
/-- a Sheet's lines set -/
def shS (w : jmW) (a n : Nat) (f : Nat → Int) : jmW := setA (setI w a 3 n) (a + 1) f
theorem Sh.S {w : jmW} {a c r n m : Nat} {F G : List Int} {f : Nat → Int} (h : Sh w a c r F n) (hm : m ≤ r) (hG : G.length = m * c) (hf : ∀ k, k < m * c → f k = G.getD k 0) : Sh (shS w a m f) a c r G m := by
  obtain ⟨h1, h2, h3, h4, h5, h6, h7, h8, h9, h10, h11⟩ := h
  have e : ∀ k, mI (shS w a m f) a k = mI (setI w a 3 m) a k := fun k => congrFun (mI_nA (by omega)) k
  refine ⟨h1, h2, h3, ?_, ?_, ?_, hG, hm, h9, h10, fun k hk => ?_⟩
  · rw [e, mI_nk (by omega)]; exact h4
  · rw [e, mI_nk (by omega)]; exact h5
  · rw [e, mI_s]
  · rw [show mI (shS w a m f) (a + 1) = f from mI_A _ _ _]
    exact hf k (by omega)
theorem Fr.S {P : Nat → Prop} {w : jmW} {a n : Nat} {f : Nat → Int} (h1 : P a) (h2 : P (a + 1)) : Fr P w (shS w a n f) := (Fr.I h1).tr (Fr.A h2)
