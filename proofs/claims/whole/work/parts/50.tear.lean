/-! The class: who is torn off, who leaves, who asks. -/
section TEAR
variable {w u : jmW} {H : Nat → Nat → Int} {L : Int} {S r g : Nat → Int} {c : Int} {B : Int} {p s b ta tw o j ri : Int}
theorem ctear_loop (hf : FS w H L S r g c) (ho : FO w p s b ta tw o j ri) (ra : RA H B r) (rb : RB r) (ta1 : -2147483648 ≤ ta) (ta2 : ta < 2147483648) : ∀ (n : Nat) (i : Int), 1 ≤ i → i + n = r 289 → ∃ u, rn 98 (13, [(0, jvr 118), (1, .inl (r 289)), (2, .inl i)], [], w) = some (none, u) ∧ FS u H L S (if gTe r n i < r 289 then up1 r 289 (gTe r n i) else r) g c ∧ FO u p s b (if gTe r n i < r 289 ∧ ta < 0 then b - 1 else ta) (if gTe r n i < r 289 ∧ ta < 0 then r (204 + gTe r n i).toNat else tw) (if gTe r n i < r 289 then o + (r 289 - gTe r n i) else o) j ri ∧ Fr fQ w u := by
  have h16 := ra.1
  obtain ⟨o1, o2, o3, o4, o5, o6, o7, o8⟩ := ho
  intro n
  induction n with
  | zero =>
    intro i i1 i2
    have e : gTe r 0 i = i := rfl
    rw [e, if_neg (by omega), if_neg (by omega), if_neg (by omega), if_neg (by omega)]
    refine ⟨w, ?_, hf, ⟨o1, o2, o3, o4, o5, o6, o7, o8⟩, Fr.rf _ _⟩
    rw [p98_13]
    simp (disch := omega) only [p98_0, p98_1, p98_4, p98_7, p98_10, p98_11, p98_12, p98_14, p98_15, p98_18, p98_19, p98_22, p98_23, p98_26, p98_27, p98_30, p98_33, p98_34, p98_35, p98_38, p98_41, p98_42, p98_45, p98_48, p98_49, p98_50, p98_53, p98_54, p98_55, p98_58, p98_59, p98_60, p98_63, p98_66, p98_67, p98_68, p98_71, p98_74, p98_75i, p98_75a, p98_76, p98_79, p98_80, p98_81, p98_82, p98_83, p98_86, p98_87, p98_90, p98_93, p98_94, p98_97, p98_98, p98_101, p98_104, jwd_c, jwd_0, Nat.reduceLeDiff, Nat.reduceEqDiff, Nat.reduceAdd, Nat.reduceSub, Nat.reduceMul, Int.reduceAdd, Int.reduceSub, Int.reduceMul, Int.reduceNeg, Int.reduceEq, Int.reduceLT, Int.reduceLE, jq_ldi_i, jq_ldl_l, jq_lda_a, jq_inc_i, jq_gs_t, jq_gsb_t, jq_gb_t, jq_gr_2, jq_gr_4, jq_gw_2, jq_s_t, jq_b_t, jg_c, jg_n, js_c, js_n, jrm_c, jrm_n, j2_i, j2_l, j2_a, jq_c_i, jq_c_l, jq_c_0, jq_c_n, jwd_le, jw_c0, mS_I, mS_R, mS_J, mN_I, mN_R, mN_J, mR_I, mI_R, mJ_I, mJ_R, mI_J, mR_J, ↓reduceIte, decide_true, or_true, true_or, and_self, false_or, or_false, reduceCtorEq, Bool.false_eq_true, and_false, false_and, eq_self, true_and, and_true, zero_ne, ↓br_lt_t, ↓br_lt_f, ↓br_eq_t, ↓br_eq_f, ↓br_lz_t, ↓br_lz_f, ↓br_ez_t, ↓br_ez_f, ↓br_gz_t, ↓br_gz_f, jw_id, jin_t, jix_t, FS.s hf, FS.r0 hf, FS.r1 hf, FS.r2 hf, FS.r3 hf, FS.r4 hf, FS.r5 hf, FS.r6 hf, FS.x119 hf, FS.x119p hf, FS.x119k hf, FS.x119t hf, FS.x120 hf, FS.x122 hf, FS.x124 hf, FS.x126 hf, FS.x130 hf, FS.x128 hf, FS.x132 hf, FS.x134 hf, FS.x84 hf, FS.x84r0 hf, FS.x85 hf, FS.x84r1 hf, FS.x87 hf, FS.x84r2 hf, FS.x89 hf, FS.x84r3 hf, FS.x91 hf, FS.x84r4 hf, FS.x93 hf, FS.x84r5 hf, FS.x95 hf, FS.x84r6 hf, FS.x97 hf, FS.x84r7 hf, FS.x99 hf, FS.x84f8 hf, FS.x84f9 hf, FS.x84f10 hf, FS.x84f11 hf, FS.x84f12 hf, FS.x84f14 hf, FS.x84f15 hf, FS.x84f16 hf, FS.x84f17 hf]
  | succ n ih =>
    intro i i1 i2
    have e : gTe r (n + 1) i = if r (268 + i).toNat < gGap r i then i else gTe r n (i + 1) := rfl
    have b0 := rb i (by omega) (by omega)
    have b1 := rb (i - 1) (by omega) (by omega)
    rw [show (220 + (i - 1)).toNat = (220 + i - 1).toNat by omega] at b1
    have gb : gGap r i = r (220 + i - 1).toNat - r (220 + i).toNat - 1 := rfl
    have e1 := r_gap hf.cr ra rb i1 (i := i) (by omega)
    have e2 := fs_get hf (i := i) (k := 4) (by omega) (by omega) (by omega) (by omega)
    rw [show (204 + 16 * (4 : Int) + i).toNat = (268 + i).toNat by omega] at e2
    rw [e]
    generalize gGap r i = G at *
    by_cases q : r (268 + i).toNat < G
    · have hi : i < r 289 := by omega
      rw [if_pos q, if_pos hi, if_pos hi]
      have fin : ∀ (w1 : jmW) (x y : Int), FS w1 H L S r g c → FO w1 p s b x y o j ri → Fr fQ w w1 → ∃ u, rn 98 (74, [(0, jvr 118), (1, .inl (r 289)), (2, .inl i)], [], w1) = some (none, u) ∧ FS u H L S (up1 r 289 i) g c ∧ FO u p s b x y (o + (r 289 - i)) j ri ∧ Fr fQ w u := by
        rintro w1 x y F1 ⟨y1, y2, y3, y4, y5, y6, y7, y8⟩ f1
        have F2 := F1.fl (k := 12) (x := o + (r 289 - i))
        obtain ⟨u, c1, c2, c3⟩ := F2.cr.cutc (by omega) (by omega) (m := i) (by omega) (by omega)
        have F3 := F2.row (c3.mo (fun b hb => by unfold sP at hb; unfold rP; omega)) c2
        have O3 : FO (setI w1 118 12 (o + (r 289 - i))) p s b x y (o + (r 289 - i)) j ri := ⟨by rw [mI_nk (by omega)]; exact y1, by rw [mI_nk (by omega)]; exact y2, by rw [mI_nk (by omega)]; exact y3, by rw [mI_nk (by omega)]; exact y4, by rw [mI_nk (by omega)]; exact y5, mI_s _ _ _ _, by rw [mI_nk (by omega)]; exact y7, by rw [mI_nk (by omega)]; exact y8⟩
        refine ⟨u, ?_, F3, O3.fr c3 (sP_n (by omega)), (f1.tr (Fr.I ⟨by omega, by omega⟩)).tr (c3.mo (fun b hb => by unfold sP at hb; unfold fQ; omega))⟩
        simp (disch := omega) only [p98_0, p98_1, p98_4, p98_7, p98_10, p98_11, p98_12, p98_14, p98_15, p98_18, p98_19, p98_22, p98_23, p98_26, p98_27, p98_30, p98_33, p98_34, p98_35, p98_38, p98_41, p98_42, p98_45, p98_48, p98_49, p98_50, p98_53, p98_54, p98_55, p98_58, p98_59, p98_60, p98_63, p98_66, p98_67, p98_68, p98_71, p98_74, p98_75i, p98_75a, p98_76, p98_79, p98_80, p98_81, p98_82, p98_83, p98_86, p98_87, p98_90, p98_93, p98_94, p98_97, p98_98, p98_101, p98_104, jwd_c, jwd_0, Nat.reduceLeDiff, Nat.reduceEqDiff, Nat.reduceAdd, Nat.reduceSub, Nat.reduceMul, Int.reduceAdd, Int.reduceSub, Int.reduceMul, Int.reduceNeg, Int.reduceEq, Int.reduceLT, Int.reduceLE, jq_ldi_i, jq_ldl_l, jq_lda_a, jq_inc_i, jq_gs_t, jq_gsb_t, jq_gb_t, jq_gr_2, jq_gr_4, jq_gw_2, jq_s_t, jq_b_t, jg_c, jg_n, js_c, js_n, jrm_c, jrm_n, j2_i, j2_l, j2_a, jq_c_i, jq_c_l, jq_c_0, jq_c_n, jwd_le, jw_c0, mS_I, mS_R, mS_J, mN_I, mN_R, mN_J, mR_I, mI_R, mJ_I, mJ_R, mI_J, mR_J, ↓reduceIte, decide_true, or_true, true_or, and_self, false_or, or_false, reduceCtorEq, Bool.false_eq_true, and_false, false_and, eq_self, true_and, and_true, zero_ne, ↓br_lt_t, ↓br_lt_f, ↓br_eq_t, ↓br_eq_f, ↓br_lz_t, ↓br_lz_f, ↓br_ez_t, ↓br_ez_f, ↓br_gz_t, ↓br_gz_f, jw_id, jin_t, jix_t, F1.s, F2.s, F2.r1, F2.x119, F2.x119k, F2.x122, y6, c1]
      by_cases q2 : ta < 0
      · have F1 := hf.fl (k := 10) (x := b - 1)
        have e3 := fs_get F1 (i := i) (k := 0) (by omega) (by omega) (by omega) (by omega)
        rw [show (204 + 16 * (0 : Int) + i).toNat = (204 + i).toNat by omega] at e3
        obtain ⟨u, a1, a2, a3, a4⟩ := fin (setI (setI w 118 10 (b - 1)) 118 11 (r (204 + i).toNat)) (b - 1) (r (204 + i).toNat) F1.fl ⟨by rw [mI_nk (by omega), mI_nk (by omega)]; exact o1, by rw [mI_nk (by omega), mI_nk (by omega)]; exact o2, by rw [mI_nk (by omega), mI_nk (by omega)]; exact o3, by rw [mI_nk (by omega), mI_s], mI_s _ _ _ _, by rw [mI_nk (by omega), mI_nk (by omega)]; exact o6, by rw [mI_nk (by omega), mI_nk (by omega)]; exact o7, by rw [mI_nk (by omega), mI_nk (by omega)]; exact o8⟩ ((Fr.I ⟨by omega, by omega⟩).tr (Fr.I ⟨by omega, by omega⟩))
        rw [if_pos ⟨hi, q2⟩, if_pos ⟨hi, q2⟩]
        refine ⟨u, ?_, a2, a3, a4⟩
        rw [← a1, p98_13]
        simp (disch := omega) only [p98_0, p98_1, p98_4, p98_7, p98_10, p98_11, p98_12, p98_14, p98_15, p98_18, p98_19, p98_22, p98_23, p98_26, p98_27, p98_30, p98_33, p98_34, p98_35, p98_38, p98_41, p98_42, p98_45, p98_48, p98_49, p98_50, p98_53, p98_54, p98_55, p98_58, p98_59, p98_60, p98_63, p98_66, p98_67, p98_68, p98_71, p98_75i, p98_75a, p98_76, p98_79, p98_80, p98_81, p98_82, p98_83, p98_86, p98_87, p98_90, p98_93, p98_94, p98_97, p98_98, p98_101, p98_104, jwd_c, jwd_0, Nat.reduceLeDiff, Nat.reduceEqDiff, Nat.reduceAdd, Nat.reduceSub, Nat.reduceMul, Int.reduceAdd, Int.reduceSub, Int.reduceMul, Int.reduceNeg, Int.reduceEq, Int.reduceLT, Int.reduceLE, jq_ldi_i, jq_ldl_l, jq_lda_a, jq_inc_i, jq_gs_t, jq_gsb_t, jq_gb_t, jq_gr_2, jq_gr_4, jq_gw_2, jq_s_t, jq_b_t, jg_c, jg_n, js_c, js_n, jrm_c, jrm_n, j2_i, j2_l, j2_a, jq_c_i, jq_c_l, jq_c_0, jq_c_n, jwd_le, jw_c0, mS_I, mS_R, mS_J, mN_I, mN_R, mN_J, mR_I, mI_R, mJ_I, mJ_R, mI_J, mR_J, ↓reduceIte, decide_true, or_true, true_or, and_self, false_or, or_false, reduceCtorEq, Bool.false_eq_true, and_false, false_and, eq_self, true_and, and_true, zero_ne, ↓br_lt_t, ↓br_lt_f, ↓br_eq_t, ↓br_eq_f, ↓br_lz_t, ↓br_lz_f, ↓br_ez_t, ↓br_ez_f, ↓br_gz_t, ↓br_gz_f, jw_id, jin_t, jix_t, FS.s hf, FS.r0 hf, FS.r1 hf, FS.r2 hf, FS.r3 hf, FS.r4 hf, FS.r5 hf, FS.r6 hf, FS.x119 hf, FS.x119p hf, FS.x119k hf, FS.x119t hf, FS.x120 hf, FS.x122 hf, FS.x124 hf, FS.x126 hf, FS.x130 hf, FS.x128 hf, FS.x132 hf, FS.x134 hf, FS.x84 hf, FS.x84r0 hf, FS.x85 hf, FS.x84r1 hf, FS.x87 hf, FS.x84r2 hf, FS.x89 hf, FS.x84r3 hf, FS.x91 hf, FS.x84r4 hf, FS.x93 hf, FS.x84r5 hf, FS.x95 hf, FS.x84r6 hf, FS.x97 hf, FS.x84r7 hf, FS.x99 hf, FS.x84f8 hf, FS.x84f9 hf, FS.x84f10 hf, FS.x84f11 hf, FS.x84f12 hf, FS.x84f14 hf, FS.x84f15 hf, FS.x84f16 hf, FS.x84f17 hf, e1, e2, o4, o3, F1.s, F1.r1, F1.x119, F1.x119k, F1.x122, e3]
      · obtain ⟨u, a1, a2, a3, a4⟩ := fin w ta tw hf ⟨o1, o2, o3, o4, o5, o6, o7, o8⟩ (Fr.rf _ _)
        rw [if_neg (show ¬ (i < r 289 ∧ ta < 0) from fun z => q2 z.2), if_neg (show ¬ (i < r 289 ∧ ta < 0) from fun z => q2 z.2)]
        refine ⟨u, ?_, a2, a3, a4⟩
        rw [← a1, p98_13]
        simp (disch := omega) only [p98_0, p98_1, p98_4, p98_7, p98_10, p98_11, p98_12, p98_14, p98_15, p98_18, p98_19, p98_22, p98_23, p98_26, p98_27, p98_30, p98_33, p98_34, p98_35, p98_38, p98_41, p98_42, p98_45, p98_48, p98_49, p98_50, p98_53, p98_54, p98_55, p98_58, p98_59, p98_60, p98_63, p98_66, p98_67, p98_68, p98_71, p98_75i, p98_75a, p98_76, p98_79, p98_80, p98_81, p98_82, p98_83, p98_86, p98_87, p98_90, p98_93, p98_94, p98_97, p98_98, p98_101, p98_104, jwd_c, jwd_0, Nat.reduceLeDiff, Nat.reduceEqDiff, Nat.reduceAdd, Nat.reduceSub, Nat.reduceMul, Int.reduceAdd, Int.reduceSub, Int.reduceMul, Int.reduceNeg, Int.reduceEq, Int.reduceLT, Int.reduceLE, jq_ldi_i, jq_ldl_l, jq_lda_a, jq_inc_i, jq_gs_t, jq_gsb_t, jq_gb_t, jq_gr_2, jq_gr_4, jq_gw_2, jq_s_t, jq_b_t, jg_c, jg_n, js_c, js_n, jrm_c, jrm_n, j2_i, j2_l, j2_a, jq_c_i, jq_c_l, jq_c_0, jq_c_n, jwd_le, jw_c0, mS_I, mS_R, mS_J, mN_I, mN_R, mN_J, mR_I, mI_R, mJ_I, mJ_R, mI_J, mR_J, ↓reduceIte, decide_true, or_true, true_or, and_self, false_or, or_false, reduceCtorEq, Bool.false_eq_true, and_false, false_and, eq_self, true_and, and_true, zero_ne, ↓br_lt_t, ↓br_lt_f, ↓br_eq_t, ↓br_eq_f, ↓br_lz_t, ↓br_lz_f, ↓br_ez_t, ↓br_ez_f, ↓br_gz_t, ↓br_gz_f, jw_id, jin_t, jix_t, FS.s hf, FS.r0 hf, FS.r1 hf, FS.r2 hf, FS.r3 hf, FS.r4 hf, FS.r5 hf, FS.r6 hf, FS.x119 hf, FS.x119p hf, FS.x119k hf, FS.x119t hf, FS.x120 hf, FS.x122 hf, FS.x124 hf, FS.x126 hf, FS.x130 hf, FS.x128 hf, FS.x132 hf, FS.x134 hf, FS.x84 hf, FS.x84r0 hf, FS.x85 hf, FS.x84r1 hf, FS.x87 hf, FS.x84r2 hf, FS.x89 hf, FS.x84r3 hf, FS.x91 hf, FS.x84r4 hf, FS.x93 hf, FS.x84r5 hf, FS.x95 hf, FS.x84r6 hf, FS.x97 hf, FS.x84r7 hf, FS.x99 hf, FS.x84f8 hf, FS.x84f9 hf, FS.x84f10 hf, FS.x84f11 hf, FS.x84f12 hf, FS.x84f14 hf, FS.x84f15 hf, FS.x84f16 hf, FS.x84f17 hf, e1, e2, o4]
    · rw [if_neg q]
      obtain ⟨u, a1, a2⟩ := ih (i + 1) (by omega) (by omega)
      refine ⟨u, ?_, a2⟩
      rw [← a1, p98_13]
      simp (disch := omega) only [p98_0, p98_1, p98_4, p98_7, p98_10, p98_11, p98_12, p98_14, p98_15, p98_18, p98_19, p98_22, p98_23, p98_26, p98_27, p98_30, p98_33, p98_34, p98_35, p98_38, p98_41, p98_42, p98_45, p98_48, p98_49, p98_50, p98_53, p98_54, p98_55, p98_58, p98_59, p98_60, p98_63, p98_66, p98_67, p98_68, p98_71, p98_74, p98_75i, p98_75a, p98_76, p98_79, p98_80, p98_81, p98_82, p98_83, p98_86, p98_87, p98_90, p98_93, p98_94, p98_97, p98_98, p98_101, p98_104, jwd_c, jwd_0, Nat.reduceLeDiff, Nat.reduceEqDiff, Nat.reduceAdd, Nat.reduceSub, Nat.reduceMul, Int.reduceAdd, Int.reduceSub, Int.reduceMul, Int.reduceNeg, Int.reduceEq, Int.reduceLT, Int.reduceLE, jq_ldi_i, jq_ldl_l, jq_lda_a, jq_inc_i, jq_gs_t, jq_gsb_t, jq_gb_t, jq_gr_2, jq_gr_4, jq_gw_2, jq_s_t, jq_b_t, jg_c, jg_n, js_c, js_n, jrm_c, jrm_n, j2_i, j2_l, j2_a, jq_c_i, jq_c_l, jq_c_0, jq_c_n, jwd_le, jw_c0, mS_I, mS_R, mS_J, mN_I, mN_R, mN_J, mR_I, mI_R, mJ_I, mJ_R, mI_J, mR_J, ↓reduceIte, decide_true, or_true, true_or, and_self, false_or, or_false, reduceCtorEq, Bool.false_eq_true, and_false, false_and, eq_self, true_and, and_true, zero_ne, ↓br_lt_t, ↓br_lt_f, ↓br_eq_t, ↓br_eq_f, ↓br_lz_t, ↓br_lz_f, ↓br_ez_t, ↓br_ez_f, ↓br_gz_t, ↓br_gz_f, jw_id, jin_t, jix_t, FS.s hf, FS.r0 hf, FS.r1 hf, FS.r2 hf, FS.r3 hf, FS.r4 hf, FS.r5 hf, FS.r6 hf, FS.x119 hf, FS.x119p hf, FS.x119k hf, FS.x119t hf, FS.x120 hf, FS.x122 hf, FS.x124 hf, FS.x126 hf, FS.x130 hf, FS.x128 hf, FS.x132 hf, FS.x134 hf, FS.x84 hf, FS.x84r0 hf, FS.x85 hf, FS.x84r1 hf, FS.x87 hf, FS.x84r2 hf, FS.x89 hf, FS.x84r3 hf, FS.x91 hf, FS.x84r4 hf, FS.x93 hf, FS.x84r5 hf, FS.x95 hf, FS.x84r6 hf, FS.x97 hf, FS.x84r7 hf, FS.x99 hf, FS.x84f8 hf, FS.x84f9 hf, FS.x84f10 hf, FS.x84f11 hf, FS.x84f12 hf, FS.x84f14 hf, FS.x84f15 hf, FS.x84f16 hf, FS.x84f17 hf, e1, e2]
theorem f_tear (hf : FS w H L S r g c) (ho : FO w p s b ta tw o j ri) (ra : RA H B r) (rb : RB r) (ta1 : -2147483648 ≤ ta) (ta2 : ta < 2147483648) : ∃ u, rn 98 (0, [(0, jvr 118)], [], w) = some (none, u) ∧ FS u H L S (gB2 r o).1 g c ∧ FO u p s b (if (gB2 r o).2.2 ≠ -1 ∧ ta < 0 then b - 1 else ta) (if (gB2 r o).2.2 ≠ -1 ∧ ta < 0 then (gB2 r o).2.2 else tw) (gB2 r o).2.1 j ri ∧ Fr fQ w u := by
  have h16 := ra.1
  have e0 := fs_n hf (by omega)
  obtain ⟨u, a1, a2, a3, a4⟩ := ctear_loop hf ho ra rb ta1 ta2 (r 289 - 1).toNat 1 (by omega) (by omega)
  have eT : gTe r (r 289 - 1).toNat 1 = gTi r := rfl
  have tb := te_in (r := r) (by omega)
  rw [eT] at a2 a3
  refine ⟨u, ?_, ?_, ?_, a4⟩
  · rw [← a1]
    simp (disch := omega) only [p98_0, p98_1, p98_4, p98_7, p98_10, p98_11, p98_12, p98_14, p98_15, p98_18, p98_19, p98_22, p98_23, p98_26, p98_27, p98_30, p98_33, p98_34, p98_35, p98_38, p98_41, p98_42, p98_45, p98_48, p98_49, p98_50, p98_53, p98_54, p98_55, p98_58, p98_59, p98_60, p98_63, p98_66, p98_67, p98_68, p98_71, p98_74, p98_75i, p98_75a, p98_76, p98_79, p98_80, p98_81, p98_82, p98_83, p98_86, p98_87, p98_90, p98_93, p98_94, p98_97, p98_98, p98_101, p98_104, jwd_c, jwd_0, Nat.reduceLeDiff, Nat.reduceEqDiff, Nat.reduceAdd, Nat.reduceSub, Nat.reduceMul, Int.reduceAdd, Int.reduceSub, Int.reduceMul, Int.reduceNeg, Int.reduceEq, Int.reduceLT, Int.reduceLE, jq_ldi_i, jq_ldl_l, jq_lda_a, jq_inc_i, jq_gs_t, jq_gsb_t, jq_gb_t, jq_gr_2, jq_gr_4, jq_gw_2, jq_s_t, jq_b_t, jg_c, jg_n, js_c, js_n, jrm_c, jrm_n, j2_i, j2_l, j2_a, jq_c_i, jq_c_l, jq_c_0, jq_c_n, jwd_le, jw_c0, mS_I, mS_R, mS_J, mN_I, mN_R, mN_J, mR_I, mI_R, mJ_I, mJ_R, mI_J, mR_J, ↓reduceIte, decide_true, or_true, true_or, and_self, false_or, or_false, reduceCtorEq, Bool.false_eq_true, and_false, false_and, eq_self, true_and, and_true, zero_ne, ↓br_lt_t, ↓br_lt_f, ↓br_eq_t, ↓br_eq_f, ↓br_lz_t, ↓br_lz_f, ↓br_ez_t, ↓br_ez_f, ↓br_gz_t, ↓br_gz_f, jw_id, jin_t, jix_t, FS.s hf, FS.r0 hf, FS.r1 hf, FS.r2 hf, FS.r3 hf, FS.r4 hf, FS.r5 hf, FS.r6 hf, FS.x119 hf, FS.x119p hf, FS.x119k hf, FS.x119t hf, FS.x120 hf, FS.x122 hf, FS.x124 hf, FS.x126 hf, FS.x130 hf, FS.x128 hf, FS.x132 hf, FS.x134 hf, FS.x84 hf, FS.x84r0 hf, FS.x85 hf, FS.x84r1 hf, FS.x87 hf, FS.x84r2 hf, FS.x89 hf, FS.x84r3 hf, FS.x91 hf, FS.x84r4 hf, FS.x93 hf, FS.x84r5 hf, FS.x95 hf, FS.x84r6 hf, FS.x97 hf, FS.x84r7 hf, FS.x99 hf, FS.x84f8 hf, FS.x84f9 hf, FS.x84f10 hf, FS.x84f11 hf, FS.x84f12 hf, FS.x84f14 hf, FS.x84f15 hf, FS.x84f16 hf, FS.x84f17 hf, e0]
  · unfold gB2
    by_cases q : gTi r < r 289
    · rw [if_pos q] at a2 ⊢
      exact a2
    · rw [if_neg q] at a2 ⊢
      exact a2
  · unfold gB2
    by_cases q : gTi r < r 289
    · have bn := (rb (gTi r) (by omega) (by omega)).1
      rw [if_pos q] at a3 ⊢
      by_cases q2 : ta < 0
      · rw [if_pos ⟨q, q2⟩, if_pos ⟨q, q2⟩] at a3
        dsimp only
        rw [if_pos ⟨by omega, q2⟩, if_pos ⟨by omega, q2⟩]
        exact a3
      · rw [if_neg (fun z => q2 z.2), if_neg (fun z => q2 z.2)] at a3
        dsimp only
        rw [if_neg (fun z => q2 z.2), if_neg (fun z => q2 z.2)]
        exact a3
    · rw [if_neg q, if_neg (fun z => q z.1), if_neg (fun z => q z.1)] at a3
      rw [if_neg q]
      dsimp only
      rw [if_neg (fun z => z.1 rfl), if_neg (fun z => z.1 rfl)]
      exact a3
theorem leave_loop (hk : HOK H) : ∀ (n : Nat) (r : Nat → Int) (t : jmL) (w : jmW), FS w H L S r g c → RA H B r → RB r → RW H r → RP r → (n : Int) < r 289 → tk 2 t → ∃ u, rn 99 (13, (0, jvr 118) :: (1, .inl n) :: t, [], w) = some (none, u) ∧ FS u H L S (gAu H n r) g c ∧ Fr (fun b => 119 ≤ b ∧ b ≤ 135 ∧ b ≠ 128 ∧ b ≠ 129) w u := by
  have kc := hk.1.2.2.2.2.2
  intro n
  induction n with
  | zero =>
    intro r t w hf ra rb rw0 rp i1 ht
    refine ⟨w, ?_, hf, Fr.rf _ _⟩
    rw [p99_13]
    simp (disch := omega) only [p99_0, p99_1, p99_4, p99_7, p99_10, p99_11, p99_12, p99_14, p99_15, p99_18, p99_19, p99_22, p99_25, p99_26, p99_27, p99_30, p99_31, p99_34, p99_35, p99_38, p99_39, p99_40, p99_41, p99_44, p99_45, p99_48, p99_51, p99_52, p99_55, p99_56, p99_59, p99_60, p99_63, p99_64, p99_67, p99_68, p99_71, p99_74, p99_75, p99_78, p99_81, p99_84, jwd_c, jwd_0, Nat.reduceLeDiff, Nat.reduceEqDiff, Nat.reduceAdd, Nat.reduceSub, Nat.reduceMul, Int.reduceAdd, Int.reduceSub, Int.reduceMul, Int.reduceNeg, Int.reduceEq, Int.reduceLT, Int.reduceLE, jq_ldi_i, jq_ldl_l, jq_lda_a, jq_inc_i, jq_gs_t, jq_gsb_t, jq_gb_t, jq_gr_2, jq_gr_4, jq_gw_2, jq_s_t, jq_b_t, jg_c, jg_n, js_c, js_n, jrm_c, jrm_n, j2_i, j2_l, j2_a, jq_c_i, jq_c_l, jq_c_0, jq_c_n, jwd_le, jw_c0, mS_I, mS_R, mS_J, mN_I, mN_R, mN_J, mR_I, mI_R, mJ_I, mJ_R, mI_J, mR_J, ↓reduceIte, decide_true, or_true, true_or, and_self, false_or, or_false, reduceCtorEq, Bool.false_eq_true, and_false, false_and, eq_self, true_and, and_true, zero_ne, ↓br_lt_t, ↓br_lt_f, ↓br_eq_t, ↓br_eq_f, ↓br_lz_t, ↓br_lz_f, ↓br_ez_t, ↓br_ez_f, ↓br_gz_t, ↓br_gz_f, jw_id, jin_t, jix_t, FS.s hf, FS.r0 hf, FS.r1 hf, FS.r2 hf, FS.r3 hf, FS.r4 hf, FS.r5 hf, FS.r6 hf, FS.x119 hf, FS.x119p hf, FS.x119k hf, FS.x119t hf, FS.x120 hf, FS.x122 hf, FS.x124 hf, FS.x126 hf, FS.x130 hf, FS.x128 hf, FS.x132 hf, FS.x134 hf, FS.x84 hf, FS.x84r0 hf, FS.x85 hf, FS.x84r1 hf, FS.x87 hf, FS.x84r2 hf, FS.x89 hf, FS.x84r3 hf, FS.x91 hf, FS.x84r4 hf, FS.x93 hf, FS.x84r5 hf, FS.x95 hf, FS.x84r6 hf, FS.x97 hf, FS.x84r7 hf, FS.x99 hf, FS.x84f8 hf, FS.x84f9 hf, FS.x84f10 hf, FS.x84f11 hf, FS.x84f12 hf, FS.x84f14 hf, FS.x84f15 hf, FS.x84f16 hf, FS.x84f17 hf]
  | succ n ih =>
    intro r t w hf ra rb rw0 rp i1 ht
    have h16 := ra.1
    generalize hi : ((n + 1 : Nat) : Int) = i at *
    have e : gAu H (n + 1) r = gAu H n (if r (236 + i).toNat = 1 ∧ H 17 (gCell r i).toNat = 1 then gOut r i else r) := by rw [← hi]; rfl
    have b0 := rb i (by omega) (by omega)
    have e1 := fs_get hf (i := i) (k := 2) (by omega) (by omega) (by omega) (by omega)
    rw [show (204 + 16 * (2 : Int) + i).toNat = (236 + i).toNat by omega] at e1
    have e2 := fs_cell hf ra rb (i := i) (by omega) (by omega)
    have c0 := RC rb rw0 (i := i) (by omega) (by omega)
    have c1 := hk.2.2.2.1 (gCell r i) c0.1 c0.2.1
    have e3 := sg_in hf.ch.g1 (l := gCell r i) (k := 0) c0.1 (by omega) (by omega) (by omega)
    obtain ⟨t2, j2, k2⟩ := tk_js ht
    have J : ∀ a : Nat, a < 3 → jrm t2 a = t2 := fun a ha => tk_jrm t2 3 a k2 ha
    rw [e, p99_13]
    generalize gCell r i = C at *
    by_cases q1 : r (236 + i).toNat = 1
    · by_cases q2 : H 17 C.toNat = 1
      · rw [if_pos ⟨q1, q2⟩]
        obtain ⟨w1, a1, a2, a3⟩ := hf.cr.drop (by omega) (by omega) (i := i) (by omega) (by omega)
        have F1 := hf.row (a3.mo (fun b hb => by unfold sP at hb; unfold rP; omega)) a2
        obtain ⟨x1, x2, x3, x4⟩ := out_ok ra rb rw0 rp (i := i) (by omega) (by omega)
        obtain ⟨u, y1, y2, y3⟩ := ih _ ((2, .inl 1) :: t2) w1 F1 x1 x2 x3 x4 (by rw [gOut_289]; omega) (tk_c k2)
        refine ⟨u, ?_, y2, (a3.mo (fun b hb => by unfold sP at hb; omega)).tr y3⟩
        rw [← y1]
        simp (disch := omega) only [p99_0, p99_1, p99_4, p99_7, p99_10, p99_11, p99_12, p99_14, p99_15, p99_18, p99_19, p99_22, p99_25, p99_26, p99_27, p99_30, p99_31, p99_34, p99_35, p99_38, p99_39, p99_40, p99_41, p99_44, p99_45, p99_48, p99_51, p99_52, p99_55, p99_56, p99_59, p99_60, p99_63, p99_64, p99_67, p99_68, p99_71, p99_74, p99_75, p99_78, p99_81, p99_84, jwd_c, jwd_0, Nat.reduceLeDiff, Nat.reduceEqDiff, Nat.reduceAdd, Nat.reduceSub, Nat.reduceMul, Int.reduceAdd, Int.reduceSub, Int.reduceMul, Int.reduceNeg, Int.reduceEq, Int.reduceLT, Int.reduceLE, jq_ldi_i, jq_ldl_l, jq_lda_a, jq_inc_i, jq_gs_t, jq_gsb_t, jq_gb_t, jq_gr_2, jq_gr_4, jq_gw_2, jq_s_t, jq_b_t, jg_c, jg_n, js_c, js_n, jrm_c, jrm_n, j2_i, j2_l, j2_a, jq_c_i, jq_c_l, jq_c_0, jq_c_n, jwd_le, jw_c0, mS_I, mS_R, mS_J, mN_I, mN_R, mN_J, mR_I, mI_R, mJ_I, mJ_R, mI_J, mR_J, ↓reduceIte, decide_true, or_true, true_or, and_self, false_or, or_false, reduceCtorEq, Bool.false_eq_true, and_false, false_and, eq_self, true_and, and_true, zero_ne, ↓br_lt_t, ↓br_lt_f, ↓br_eq_t, ↓br_eq_f, ↓br_lz_t, ↓br_lz_f, ↓br_ez_t, ↓br_ez_f, ↓br_gz_t, ↓br_gz_f, jw_id, jin_t, jix_t, FS.s hf, FS.r0 hf, FS.r1 hf, FS.r2 hf, FS.r3 hf, FS.r4 hf, FS.r5 hf, FS.r6 hf, FS.x119 hf, FS.x119p hf, FS.x119k hf, FS.x119t hf, FS.x120 hf, FS.x122 hf, FS.x124 hf, FS.x126 hf, FS.x130 hf, FS.x128 hf, FS.x132 hf, FS.x134 hf, FS.x84 hf, FS.x84r0 hf, FS.x85 hf, FS.x84r1 hf, FS.x87 hf, FS.x84r2 hf, FS.x89 hf, FS.x84r3 hf, FS.x91 hf, FS.x84r4 hf, FS.x93 hf, FS.x84r5 hf, FS.x95 hf, FS.x84r6 hf, FS.x97 hf, FS.x84r7 hf, FS.x99 hf, FS.x84f8 hf, FS.x84f9 hf, FS.x84f10 hf, FS.x84f11 hf, FS.x84f12 hf, FS.x84f14 hf, FS.x84f15 hf, FS.x84f16 hf, FS.x84f17 hf, e1, j2, e2, e3, q1, q2, a1, J]
        rw [show i + -1 = ((n : Nat) : Int) by omega]
      · rw [if_neg (fun z => q2 z.2)]
        obtain ⟨u, y1, y2, y3⟩ := ih _ ((2, .inl 1) :: t2) w hf ra rb rw0 rp (by omega) (tk_c k2)
        refine ⟨u, ?_, y2, y3⟩
        rw [← y1]
        simp (disch := omega) only [p99_0, p99_1, p99_4, p99_7, p99_10, p99_11, p99_12, p99_14, p99_15, p99_18, p99_19, p99_22, p99_25, p99_26, p99_27, p99_30, p99_31, p99_34, p99_35, p99_38, p99_39, p99_40, p99_41, p99_44, p99_45, p99_48, p99_51, p99_52, p99_55, p99_56, p99_59, p99_60, p99_63, p99_64, p99_67, p99_68, p99_71, p99_74, p99_75, p99_78, p99_81, p99_84, jwd_c, jwd_0, Nat.reduceLeDiff, Nat.reduceEqDiff, Nat.reduceAdd, Nat.reduceSub, Nat.reduceMul, Int.reduceAdd, Int.reduceSub, Int.reduceMul, Int.reduceNeg, Int.reduceEq, Int.reduceLT, Int.reduceLE, jq_ldi_i, jq_ldl_l, jq_lda_a, jq_inc_i, jq_gs_t, jq_gsb_t, jq_gb_t, jq_gr_2, jq_gr_4, jq_gw_2, jq_s_t, jq_b_t, jg_c, jg_n, js_c, js_n, jrm_c, jrm_n, j2_i, j2_l, j2_a, jq_c_i, jq_c_l, jq_c_0, jq_c_n, jwd_le, jw_c0, mS_I, mS_R, mS_J, mN_I, mN_R, mN_J, mR_I, mI_R, mJ_I, mJ_R, mI_J, mR_J, ↓reduceIte, decide_true, or_true, true_or, and_self, false_or, or_false, reduceCtorEq, Bool.false_eq_true, and_false, false_and, eq_self, true_and, and_true, zero_ne, ↓br_lt_t, ↓br_lt_f, ↓br_eq_t, ↓br_eq_f, ↓br_lz_t, ↓br_lz_f, ↓br_ez_t, ↓br_ez_f, ↓br_gz_t, ↓br_gz_f, jw_id, jin_t, jix_t, FS.s hf, FS.r0 hf, FS.r1 hf, FS.r2 hf, FS.r3 hf, FS.r4 hf, FS.r5 hf, FS.r6 hf, FS.x119 hf, FS.x119p hf, FS.x119k hf, FS.x119t hf, FS.x120 hf, FS.x122 hf, FS.x124 hf, FS.x126 hf, FS.x130 hf, FS.x128 hf, FS.x132 hf, FS.x134 hf, FS.x84 hf, FS.x84r0 hf, FS.x85 hf, FS.x84r1 hf, FS.x87 hf, FS.x84r2 hf, FS.x89 hf, FS.x84r3 hf, FS.x91 hf, FS.x84r4 hf, FS.x93 hf, FS.x84r5 hf, FS.x95 hf, FS.x84r6 hf, FS.x97 hf, FS.x84r7 hf, FS.x99 hf, FS.x84f8 hf, FS.x84f9 hf, FS.x84f10 hf, FS.x84f11 hf, FS.x84f12 hf, FS.x84f14 hf, FS.x84f15 hf, FS.x84f16 hf, FS.x84f17 hf, e1, j2, e2, e3, q1, J]
        rw [show i + -1 = ((n : Nat) : Int) by omega]
    · rw [if_neg (fun z => q1 z.1)]
      obtain ⟨u, y1, y2, y3⟩ := ih _ ((2, .inl 0) :: t2) w hf ra rb rw0 rp (by omega) (tk_c k2)
      refine ⟨u, ?_, y2, y3⟩
      rw [← y1]
      simp (disch := omega) only [p99_0, p99_1, p99_4, p99_7, p99_10, p99_11, p99_12, p99_14, p99_15, p99_18, p99_19, p99_22, p99_25, p99_26, p99_27, p99_30, p99_31, p99_34, p99_35, p99_38, p99_39, p99_40, p99_41, p99_44, p99_45, p99_48, p99_51, p99_52, p99_55, p99_56, p99_59, p99_60, p99_63, p99_64, p99_67, p99_68, p99_71, p99_74, p99_75, p99_78, p99_81, p99_84, jwd_c, jwd_0, Nat.reduceLeDiff, Nat.reduceEqDiff, Nat.reduceAdd, Nat.reduceSub, Nat.reduceMul, Int.reduceAdd, Int.reduceSub, Int.reduceMul, Int.reduceNeg, Int.reduceEq, Int.reduceLT, Int.reduceLE, jq_ldi_i, jq_ldl_l, jq_lda_a, jq_inc_i, jq_gs_t, jq_gsb_t, jq_gb_t, jq_gr_2, jq_gr_4, jq_gw_2, jq_s_t, jq_b_t, jg_c, jg_n, js_c, js_n, jrm_c, jrm_n, j2_i, j2_l, j2_a, jq_c_i, jq_c_l, jq_c_0, jq_c_n, jwd_le, jw_c0, mS_I, mS_R, mS_J, mN_I, mN_R, mN_J, mR_I, mI_R, mJ_I, mJ_R, mI_J, mR_J, ↓reduceIte, decide_true, or_true, true_or, and_self, false_or, or_false, reduceCtorEq, Bool.false_eq_true, and_false, false_and, eq_self, true_and, and_true, zero_ne, ↓br_lt_t, ↓br_lt_f, ↓br_eq_t, ↓br_eq_f, ↓br_lz_t, ↓br_lz_f, ↓br_ez_t, ↓br_ez_f, ↓br_gz_t, ↓br_gz_f, jw_id, jin_t, jix_t, FS.s hf, FS.r0 hf, FS.r1 hf, FS.r2 hf, FS.r3 hf, FS.r4 hf, FS.r5 hf, FS.r6 hf, FS.x119 hf, FS.x119p hf, FS.x119k hf, FS.x119t hf, FS.x120 hf, FS.x122 hf, FS.x124 hf, FS.x126 hf, FS.x130 hf, FS.x128 hf, FS.x132 hf, FS.x134 hf, FS.x84 hf, FS.x84r0 hf, FS.x85 hf, FS.x84r1 hf, FS.x87 hf, FS.x84r2 hf, FS.x89 hf, FS.x84r3 hf, FS.x91 hf, FS.x84r4 hf, FS.x93 hf, FS.x84r5 hf, FS.x95 hf, FS.x84r6 hf, FS.x97 hf, FS.x84r7 hf, FS.x99 hf, FS.x84f8 hf, FS.x84f9 hf, FS.x84f10 hf, FS.x84f11 hf, FS.x84f12 hf, FS.x84f14 hf, FS.x84f15 hf, FS.x84f16 hf, FS.x84f17 hf, e1, j2, J]
      rw [show i + -1 = ((n : Nat) : Int) by omega]
theorem f_leave (hf : FS w H L S r g c) (hk : HOK H) (ra : RA H B r) (rb : RB r) (rw0 : RW H r) (rp : RP r) : ∃ u, rn 99 (0, [(0, jvr 118)], [], w) = some (none, u) ∧ FS u H L S (gAu H (r 289 - 1).toNat r) g c ∧ Fr (fun b => 119 ≤ b ∧ b ≤ 135 ∧ b ≠ 128 ∧ b ≠ 129) w u := by
  have h16 := ra.1
  have e0 := fs_n hf (by omega)
  obtain ⟨u, e, F, f⟩ := leave_loop hk (r 289 - 1).toNat r [] w hf ra rb rw0 rp (by omega) (tk_n 2)
  rw [show (((r 289 - 1).toNat : Nat) : Int) = r 289 - 1 by omega] at e
  refine ⟨u, ?_, F, f⟩
  rw [← e]
  simp (disch := omega) only [p99_0, p99_1, p99_4, p99_7, p99_10, p99_11, p99_12, p99_14, p99_15, p99_18, p99_19, p99_22, p99_25, p99_26, p99_27, p99_30, p99_31, p99_34, p99_35, p99_38, p99_39, p99_40, p99_41, p99_44, p99_45, p99_48, p99_51, p99_52, p99_55, p99_56, p99_59, p99_60, p99_63, p99_64, p99_67, p99_68, p99_71, p99_74, p99_75, p99_78, p99_81, p99_84, jwd_c, jwd_0, Nat.reduceLeDiff, Nat.reduceEqDiff, Nat.reduceAdd, Nat.reduceSub, Nat.reduceMul, Int.reduceAdd, Int.reduceSub, Int.reduceMul, Int.reduceNeg, Int.reduceEq, Int.reduceLT, Int.reduceLE, jq_ldi_i, jq_ldl_l, jq_lda_a, jq_inc_i, jq_gs_t, jq_gsb_t, jq_gb_t, jq_gr_2, jq_gr_4, jq_gw_2, jq_s_t, jq_b_t, jg_c, jg_n, js_c, js_n, jrm_c, jrm_n, j2_i, j2_l, j2_a, jq_c_i, jq_c_l, jq_c_0, jq_c_n, jwd_le, jw_c0, mS_I, mS_R, mS_J, mN_I, mN_R, mN_J, mR_I, mI_R, mJ_I, mJ_R, mI_J, mR_J, ↓reduceIte, decide_true, or_true, true_or, and_self, false_or, or_false, reduceCtorEq, Bool.false_eq_true, and_false, false_and, eq_self, true_and, and_true, zero_ne, ↓br_lt_t, ↓br_lt_f, ↓br_eq_t, ↓br_eq_f, ↓br_lz_t, ↓br_lz_f, ↓br_ez_t, ↓br_ez_f, ↓br_gz_t, ↓br_gz_f, jw_id, jin_t, jix_t, FS.s hf, FS.r0 hf, FS.r1 hf, FS.r2 hf, FS.r3 hf, FS.r4 hf, FS.r5 hf, FS.r6 hf, FS.x119 hf, FS.x119p hf, FS.x119k hf, FS.x119t hf, FS.x120 hf, FS.x122 hf, FS.x124 hf, FS.x126 hf, FS.x130 hf, FS.x128 hf, FS.x132 hf, FS.x134 hf, FS.x84 hf, FS.x84r0 hf, FS.x85 hf, FS.x84r1 hf, FS.x87 hf, FS.x84r2 hf, FS.x89 hf, FS.x84r3 hf, FS.x91 hf, FS.x84r4 hf, FS.x93 hf, FS.x84r5 hf, FS.x95 hf, FS.x84r6 hf, FS.x97 hf, FS.x84r7 hf, FS.x99 hf, FS.x84f8 hf, FS.x84f9 hf, FS.x84f10 hf, FS.x84f11 hf, FS.x84f12 hf, FS.x84f14 hf, FS.x84f15 hf, FS.x84f16 hf, FS.x84f17 hf, e0]
end TEAR
