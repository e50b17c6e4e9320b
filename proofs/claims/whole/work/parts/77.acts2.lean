/-! The model: acts. -/
section ACTSM
variable {w u : jmW} {h : Nat} {H : Nat → Nat → Int} {r S q g : Nat → Int} {B : Int} {s : gSt}
/-- kept, then another row -/
theorem mX.keep (X0 : mX w h H s) : ∃ w1, rn 295 (0, [(0, jvr 238)], [], w) = some (none, w1) ∧ mX w1 h H (gPs s) ∧ (∀ {u : jmW} {P : Nat → Prop}, Fr P w1 u → (∀ b, P b → b = 238 ∨ (241 ≤ b ∧ b ≤ 251)) → Fr (fun b => b = 238 ∨ (241 ≤ b ∧ b ≤ 251)) w u) ∧ mR w1 = mR w ∧ ∀ k, 3 ≤ k → k < 22 → mI w1 238 k = mI w 238 k := by
  obtain ⟨w1, e1, X1, f1, r1, k1⟩ := m_keeps X0
  exact ⟨w1, e1, X1, fun f hP => (f1.mo (fun b hb => by omega)).tr (f.mo hP), r1, fun k k2 k3 => k1 k (by omega)⟩
theorem d_seed (hX : mX w h H s) {v : Int} (x1 : -2147483648 ≤ v) (x2 : v < 2147483648) : ∃ u, rn 303 (0, [(0, jvr 238), (1, .inl v)], [], w) = some (some (.inl (A42 s v).1), u) ∧ qN w u h H (A42 s v).2.2 (A42 s v).2.1 := by
  have hs0 := hX.1.1.s0
  have X0 := hX.z
  have e00 : rn 303 (0, [(0, jvr 238), (1, .inl v)], [], w) = rn 303 (5, [(0, jvr 238), (1, .inl v)], [], setI w 238 0 0) := by
    simp only [p303_0, p303_1, p303_2, jwd_c, jwd_0, Nat.reduceLeDiff, Nat.reduceEqDiff, Nat.reduceAdd, Nat.reduceSub, Nat.reduceMul, Int.reduceAdd, Int.reduceSub, Int.reduceMul, Int.reduceNeg, Int.reduceEq, Int.reduceLT, Int.reduceLE, jq_ldi_i, jq_ldl_l, jq_lda_a, jq_inc_i, jq_gs_t, jq_gsb_t, jq_gb_t, jq_gr_2, jq_gr_4, jq_gw_2, jq_s_t, jq_b_t, jg_c, jg_n, js_c, js_n, jrm_c, jrm_n, j2_i, j2_l, j2_a, jq_c_i, jq_c_l, jq_c_0, jq_c_n, jwd_le, jw_c0, mS_I, mS_R, mS_J, mN_I, mN_R, mN_J, mR_I, mI_R, mJ_I, mJ_R, mI_J, mR_J, ↓reduceIte, decide_true, or_true, true_or, and_self, false_or, or_false, reduceCtorEq, Bool.false_eq_true, and_false, false_and, eq_self, true_and, and_true, zero_ne, hs0]
  rw [e00]
  clear e00
  generalize hw0 : setI w 238 0 0 = w0 at *
  have hq1 := X0.1
  have hv0 := X0.2.1
  have hm := X0.1.1
  have hh := X0.1.2.1
  have h3 := X0.1.2.2
  have hge := hh.ge
  have e2 := m_in (w := w0) (x := v) (a := 0) (b := 65536) x1 x2 (by omega) (by omega) (by omega) (by omega)
  unfold A42
  by_cases q : 0 ≤ v ∧ v ≤ 65536
  · rw [if_pos q] at e2 ⊢
    have X1 := X0.row (f := up1 s.1 295 v)
    refine ⟨_, ?_, X1.fin hw0 (Fr.A (Or.inr ⟨by omega, by omega⟩)) (by rw [← hw0]; rfl) (fun k k1 k2 => congrFun (mI_nA (by omega)) k)⟩
    simp (disch := omega) only [p303_0, p303_1, p303_2, p303_5, p303_6, p303_9n, p303_9s, p303_12, p303_13, p303_14, p303_17, p303_18, p303_19, p303_20, p303_23, p303_26, p303_29, p303_30, p303_31, p303_34, p303_35, p303_36, p303_39, p303_42, p303_43, p303_44, p303_45, p303_48, p213_0, p213_1, p213_2, p213_5, p213_6, p213_7, p213_10, p213_11, p176_0, p176_1, p176_2, p176_5, p176_6, p176_7, p176_10, p176_11, p297_0, p297_1, p297_2, p297_5, p297_6, p297_7, p298_0, p298_1, p298_2, p298_5, p298_6, p298_7, jwd_c, jwd_0, Nat.reduceLeDiff, Nat.reduceEqDiff, Nat.reduceAdd, Nat.reduceSub, Nat.reduceMul, Int.reduceAdd, Int.reduceSub, Int.reduceMul, Int.reduceNeg, Int.reduceEq, Int.reduceLT, Int.reduceLE, jq_ldi_i, jq_ldl_l, jq_lda_a, jq_inc_i, jq_gs_t, jq_gsb_t, jq_gb_t, jq_gr_2, jq_gr_4, jq_gw_2, jq_s_t, jq_b_t, jg_c, jg_n, js_c, js_n, jrm_c, jrm_n, j2_i, j2_l, j2_a, jq_c_i, jq_c_l, jq_c_0, jq_c_n, jwd_le, jw_c0, mS_I, mS_R, mS_J, mN_I, mN_R, mN_J, mR_I, mI_R, mJ_I, mJ_R, mI_J, mR_J, ↓reduceIte, decide_true, or_true, true_or, and_self, false_or, or_false, reduceCtorEq, Bool.false_eq_true, and_false, false_and, eq_self, true_and, and_true, zero_ne, ↓br_lt_t, ↓br_lt_f, ↓br_eq_t, ↓br_eq_f, ↓br_lz_t, ↓br_lz_f, ↓br_ez_t, ↓br_ez_f, ↓br_gz_t, ↓br_gz_f, jw_id, jin_t, jix_t, ↓ite_t, ↓ite_f, MO.s0 hm, MO.s1 hm, MO.s2 hm, MO.s3 hm, MO.s4 hm, MO.s5 hm, MO.s6 hm, MO.s7 hm, MO.s8 hm, MO.s9 hm, MO.s10 hm, MO.s11 hm, MO.s12 hm, MO.s13 hm, MO.r1 hm, MO.r2 hm, MO.r3 hm, MO.r4 hm, MO.r5 hm, MO.r6 hm, MO.r7 hm, MO.r8 hm, MO.r9 hm, MO.r10 hm, MO.r11 hm, MO.r12 hm, MO.r13 hm, h3, e2, setI_A, hv0, mI_nA, mS_A, Int.reduceToNat]
  · rw [if_neg q] at e2 ⊢
    refine ⟨_, ?_, hX.no hw0⟩
    simp (disch := omega) only [p303_0, p303_1, p303_2, p303_5, p303_6, p303_9n, p303_9s, p303_12, p303_13, p303_14, p303_17, p303_18, p303_19, p303_20, p303_23, p303_26, p303_29, p303_30, p303_31, p303_34, p303_35, p303_36, p303_39, p303_42, p303_43, p303_44, p303_45, p303_48, p213_0, p213_1, p213_2, p213_5, p213_6, p213_7, p213_10, p213_11, p176_0, p176_1, p176_2, p176_5, p176_6, p176_7, p176_10, p176_11, p297_0, p297_1, p297_2, p297_5, p297_6, p297_7, p298_0, p298_1, p298_2, p298_5, p298_6, p298_7, jwd_c, jwd_0, Nat.reduceLeDiff, Nat.reduceEqDiff, Nat.reduceAdd, Nat.reduceSub, Nat.reduceMul, Int.reduceAdd, Int.reduceSub, Int.reduceMul, Int.reduceNeg, Int.reduceEq, Int.reduceLT, Int.reduceLE, jq_ldi_i, jq_ldl_l, jq_lda_a, jq_inc_i, jq_gs_t, jq_gsb_t, jq_gb_t, jq_gr_2, jq_gr_4, jq_gw_2, jq_s_t, jq_b_t, jg_c, jg_n, js_c, js_n, jrm_c, jrm_n, j2_i, j2_l, j2_a, jq_c_i, jq_c_l, jq_c_0, jq_c_n, jwd_le, jw_c0, mS_I, mS_R, mS_J, mN_I, mN_R, mN_J, mR_I, mI_R, mJ_I, mJ_R, mI_J, mR_J, ↓reduceIte, decide_true, or_true, true_or, and_self, false_or, or_false, reduceCtorEq, Bool.false_eq_true, and_false, false_and, eq_self, true_and, and_true, zero_ne, ↓br_lt_t, ↓br_lt_f, ↓br_eq_t, ↓br_eq_f, ↓br_lz_t, ↓br_lz_f, ↓br_ez_t, ↓br_ez_f, ↓br_gz_t, ↓br_gz_f, jw_id, jin_t, jix_t, ↓ite_t, ↓ite_f, MO.s0 hm, MO.s1 hm, MO.s2 hm, MO.s3 hm, MO.s4 hm, MO.s5 hm, MO.s6 hm, MO.s7 hm, MO.s8 hm, MO.s9 hm, MO.s10 hm, MO.s11 hm, MO.s12 hm, MO.s13 hm, MO.r1 hm, MO.r2 hm, MO.r3 hm, MO.r4 hm, MO.r5 hm, MO.r6 hm, MO.r7 hm, MO.r8 hm, MO.r9 hm, MO.r10 hm, MO.r11 hm, MO.r12 hm, MO.r13 hm, h3, e2]
theorem d_lead (hX : mX w h H s) (ri : RI H B s.1) {l : Int} (x1 : -2147483648 ≤ l) (x2 : l < 2147483648) : ∃ u, rn 296 (0, [(0, jvr 238), (1, .inl l)], [], w) = some (some (.inl (A38 s l).1), u) ∧ qN w u h H (A38 s l).2.2 (A38 s l).2.1 := by
  have hs0 := hX.1.1.s0
  have X0 := hX.z
  have e00 : rn 296 (0, [(0, jvr 238), (1, .inl l)], [], w) = rn 296 (5, [(0, jvr 238), (1, .inl l)], [], setI w 238 0 0) := by
    simp only [p296_0, p296_1, p296_2, jwd_c, jwd_0, Nat.reduceLeDiff, Nat.reduceEqDiff, Nat.reduceAdd, Nat.reduceSub, Nat.reduceMul, Int.reduceAdd, Int.reduceSub, Int.reduceMul, Int.reduceNeg, Int.reduceEq, Int.reduceLT, Int.reduceLE, jq_ldi_i, jq_ldl_l, jq_lda_a, jq_inc_i, jq_gs_t, jq_gsb_t, jq_gb_t, jq_gr_2, jq_gr_4, jq_gw_2, jq_s_t, jq_b_t, jg_c, jg_n, js_c, js_n, jrm_c, jrm_n, j2_i, j2_l, j2_a, jq_c_i, jq_c_l, jq_c_0, jq_c_n, jwd_le, jw_c0, mS_I, mS_R, mS_J, mN_I, mN_R, mN_J, mR_I, mI_R, mJ_I, mJ_R, mI_J, mR_J, ↓reduceIte, decide_true, or_true, true_or, and_self, false_or, or_false, reduceCtorEq, Bool.false_eq_true, and_false, false_and, eq_self, true_and, and_true, zero_ne, hs0]
  rw [e00]
  clear e00
  generalize hw0 : setI w 238 0 0 = w0 at *
  have hq1 := X0.1
  have hv0 := X0.2.1
  have hm := X0.1.1
  have hh := X0.1.2.1
  have h3 := X0.1.2.2
  have hge := hh.ge
  have e2 := m_in (w := w0) (x := l) (a := 0) (b := 4) x1 x2 (by omega) (by omega) (by omega) (by omega)
  have r91 := ri.1.2.2
  unfold A38
  by_cases q : 0 ≤ l ∧ l ≤ 4
  · rw [if_pos q] at e2 ⊢
    by_cases q3 : s.1 291 = l
    · rw [if_pos q3]
      refine ⟨_, ?_, hX.no hw0⟩
      simp (disch := omega) only [p296_0, p296_1, p296_2, p296_5, p296_6, p296_9n, p296_9s, p296_12, p296_13, p296_14, p296_15, p296_18, p296_21, p296_22, p296_23, p296_26, p296_27, p296_28, p296_31, p296_34, p296_35, p296_36, p296_39, p296_40, p296_41, p296_44, p296_45, p296_46, p296_49, p296_50, p296_53, p296_56, p296_57, p296_58, p296_59, p296_62, p213_0, p213_1, p213_2, p213_5, p213_6, p213_7, p213_10, p213_11, p176_0, p176_1, p176_2, p176_5, p176_6, p176_7, p176_10, p176_11, p297_0, p297_1, p297_2, p297_5, p297_6, p297_7, p298_0, p298_1, p298_2, p298_5, p298_6, p298_7, jwd_c, jwd_0, Nat.reduceLeDiff, Nat.reduceEqDiff, Nat.reduceAdd, Nat.reduceSub, Nat.reduceMul, Int.reduceAdd, Int.reduceSub, Int.reduceMul, Int.reduceNeg, Int.reduceEq, Int.reduceLT, Int.reduceLE, jq_ldi_i, jq_ldl_l, jq_lda_a, jq_inc_i, jq_gs_t, jq_gsb_t, jq_gb_t, jq_gr_2, jq_gr_4, jq_gw_2, jq_s_t, jq_b_t, jg_c, jg_n, js_c, js_n, jrm_c, jrm_n, j2_i, j2_l, j2_a, jq_c_i, jq_c_l, jq_c_0, jq_c_n, jwd_le, jw_c0, mS_I, mS_R, mS_J, mN_I, mN_R, mN_J, mR_I, mI_R, mJ_I, mJ_R, mI_J, mR_J, ↓reduceIte, decide_true, or_true, true_or, and_self, false_or, or_false, reduceCtorEq, Bool.false_eq_true, and_false, false_and, eq_self, true_and, and_true, zero_ne, ↓br_lt_t, ↓br_lt_f, ↓br_eq_t, ↓br_eq_f, ↓br_lz_t, ↓br_lz_f, ↓br_ez_t, ↓br_ez_f, ↓br_gz_t, ↓br_gz_f, jw_id, jin_t, jix_t, ↓ite_t, ↓ite_f, MO.s0 hm, MO.s1 hm, MO.s2 hm, MO.s3 hm, MO.s4 hm, MO.s5 hm, MO.s6 hm, MO.s7 hm, MO.s8 hm, MO.s9 hm, MO.s10 hm, MO.s11 hm, MO.s12 hm, MO.s13 hm, MO.r1 hm, MO.r2 hm, MO.r3 hm, MO.r4 hm, MO.r5 hm, MO.r6 hm, MO.r7 hm, MO.r8 hm, MO.r9 hm, MO.r10 hm, MO.r11 hm, MO.r12 hm, MO.r13 hm, h3, e2, hv0, Int.reduceToNat]
    · rw [if_neg q3]
      obtain ⟨w1, e1, X1, f1, r1, k1⟩ := X0.keep
      have hm1 := X1.1.1
      have hv1 : mI w1 241 = s.1 := X1.2.1
      have X2 := X1.row (f := up1 s.1 291 l)
      refine ⟨_, ?_, X2.fin hw0 (f1 (Fr.A (P := fun b => b = 241) rfl) (fun b hb => by omega)) (by rw [← hw0] at r1; exact r1) (fun k k2 k3 => by rw [mI_nA (by omega)]; exact k1 k k2 k3)⟩
      simp (disch := omega) only [p296_0, p296_1, p296_2, p296_5, p296_6, p296_9n, p296_9s, p296_12, p296_13, p296_14, p296_15, p296_18, p296_21, p296_22, p296_23, p296_26, p296_27, p296_28, p296_31, p296_34, p296_35, p296_36, p296_39, p296_40, p296_41, p296_44, p296_45, p296_46, p296_49, p296_50, p296_53, p296_56, p296_57, p296_58, p296_59, p296_62, p213_0, p213_1, p213_2, p213_5, p213_6, p213_7, p213_10, p213_11, p176_0, p176_1, p176_2, p176_5, p176_6, p176_7, p176_10, p176_11, p297_0, p297_1, p297_2, p297_5, p297_6, p297_7, p298_0, p298_1, p298_2, p298_5, p298_6, p298_7, jwd_c, jwd_0, Nat.reduceLeDiff, Nat.reduceEqDiff, Nat.reduceAdd, Nat.reduceSub, Nat.reduceMul, Int.reduceAdd, Int.reduceSub, Int.reduceMul, Int.reduceNeg, Int.reduceEq, Int.reduceLT, Int.reduceLE, jq_ldi_i, jq_ldl_l, jq_lda_a, jq_inc_i, jq_gs_t, jq_gsb_t, jq_gb_t, jq_gr_2, jq_gr_4, jq_gw_2, jq_s_t, jq_b_t, jg_c, jg_n, js_c, js_n, jrm_c, jrm_n, j2_i, j2_l, j2_a, jq_c_i, jq_c_l, jq_c_0, jq_c_n, jwd_le, jw_c0, mS_I, mS_R, mS_J, mN_I, mN_R, mN_J, mR_I, mI_R, mJ_I, mJ_R, mI_J, mR_J, ↓reduceIte, decide_true, or_true, true_or, and_self, false_or, or_false, reduceCtorEq, Bool.false_eq_true, and_false, false_and, eq_self, true_and, and_true, zero_ne, ↓br_lt_t, ↓br_lt_f, ↓br_eq_t, ↓br_eq_f, ↓br_lz_t, ↓br_lz_f, ↓br_ez_t, ↓br_ez_f, ↓br_gz_t, ↓br_gz_f, jw_id, jin_t, jix_t, ↓ite_t, ↓ite_f, MO.s0 hm, MO.s1 hm, MO.s2 hm, MO.s3 hm, MO.s4 hm, MO.s5 hm, MO.s6 hm, MO.s7 hm, MO.s8 hm, MO.s9 hm, MO.s10 hm, MO.s11 hm, MO.s12 hm, MO.s13 hm, MO.r1 hm, MO.r2 hm, MO.r3 hm, MO.r4 hm, MO.r5 hm, MO.r6 hm, MO.r7 hm, MO.r8 hm, MO.r9 hm, MO.r10 hm, MO.r11 hm, MO.r12 hm, MO.r13 hm, h3, e2, hv0, Int.reduceToNat, e1, MO.s0 hm1, MO.r3 hm1, MO.s3 hm1, setI_A, hv1, mI_nA, mS_A]
  · rw [if_neg q] at e2 ⊢
    refine ⟨_, ?_, hX.no hw0⟩
    simp (disch := omega) only [p296_0, p296_1, p296_2, p296_5, p296_6, p296_9n, p296_9s, p296_12, p296_13, p296_14, p296_15, p296_18, p296_21, p296_22, p296_23, p296_26, p296_27, p296_28, p296_31, p296_34, p296_35, p296_36, p296_39, p296_40, p296_41, p296_44, p296_45, p296_46, p296_49, p296_50, p296_53, p296_56, p296_57, p296_58, p296_59, p296_62, p213_0, p213_1, p213_2, p213_5, p213_6, p213_7, p213_10, p213_11, p176_0, p176_1, p176_2, p176_5, p176_6, p176_7, p176_10, p176_11, p297_0, p297_1, p297_2, p297_5, p297_6, p297_7, p298_0, p298_1, p298_2, p298_5, p298_6, p298_7, jwd_c, jwd_0, Nat.reduceLeDiff, Nat.reduceEqDiff, Nat.reduceAdd, Nat.reduceSub, Nat.reduceMul, Int.reduceAdd, Int.reduceSub, Int.reduceMul, Int.reduceNeg, Int.reduceEq, Int.reduceLT, Int.reduceLE, jq_ldi_i, jq_ldl_l, jq_lda_a, jq_inc_i, jq_gs_t, jq_gsb_t, jq_gb_t, jq_gr_2, jq_gr_4, jq_gw_2, jq_s_t, jq_b_t, jg_c, jg_n, js_c, js_n, jrm_c, jrm_n, j2_i, j2_l, j2_a, jq_c_i, jq_c_l, jq_c_0, jq_c_n, jwd_le, jw_c0, mS_I, mS_R, mS_J, mN_I, mN_R, mN_J, mR_I, mI_R, mJ_I, mJ_R, mI_J, mR_J, ↓reduceIte, decide_true, or_true, true_or, and_self, false_or, or_false, reduceCtorEq, Bool.false_eq_true, and_false, false_and, eq_self, true_and, and_true, zero_ne, ↓br_lt_t, ↓br_lt_f, ↓br_eq_t, ↓br_eq_f, ↓br_lz_t, ↓br_lz_f, ↓br_ez_t, ↓br_ez_f, ↓br_gz_t, ↓br_gz_f, jw_id, jin_t, jix_t, ↓ite_t, ↓ite_f, MO.s0 hm, MO.s1 hm, MO.s2 hm, MO.s3 hm, MO.s4 hm, MO.s5 hm, MO.s6 hm, MO.s7 hm, MO.s8 hm, MO.s9 hm, MO.s10 hm, MO.s11 hm, MO.s12 hm, MO.s13 hm, MO.r1 hm, MO.r2 hm, MO.r3 hm, MO.r4 hm, MO.r5 hm, MO.r6 hm, MO.r7 hm, MO.r8 hm, MO.r9 hm, MO.r10 hm, MO.r11 hm, MO.r12 hm, MO.r13 hm, h3, e2]
theorem d_band (hX : mX w h H s) (hk : HOK H) (ri : RI H B s.1) {x y : Int} (x1 : -2147483648 ≤ x) (x2 : x < 2147483648) (y1 : -2147483648 ≤ y) (y2 : y < 2147483648) : ∃ u, rn 302 (0, [(0, jvr 238), (1, .inl x), (2, .inl y)], [], w) = some (some (.inl (A41 H s x y).1), u) ∧ qN w u h H (A41 H s x y).2.2 (A41 H s x y).2.1 := by
  have hs0 := hX.1.1.s0
  have X0 := hX.z
  have e00 : rn 302 (0, [(0, jvr 238), (1, .inl x), (2, .inl y)], [], w) = rn 302 (5, [(0, jvr 238), (1, .inl x), (2, .inl y)], [], setI w 238 0 0) := by
    simp only [p302_0, p302_1, p302_2, jwd_c, jwd_0, Nat.reduceLeDiff, Nat.reduceEqDiff, Nat.reduceAdd, Nat.reduceSub, Nat.reduceMul, Int.reduceAdd, Int.reduceSub, Int.reduceMul, Int.reduceNeg, Int.reduceEq, Int.reduceLT, Int.reduceLE, jq_ldi_i, jq_ldl_l, jq_lda_a, jq_inc_i, jq_gs_t, jq_gsb_t, jq_gb_t, jq_gr_2, jq_gr_4, jq_gw_2, jq_s_t, jq_b_t, jg_c, jg_n, js_c, js_n, jrm_c, jrm_n, j2_i, j2_l, j2_a, jq_c_i, jq_c_l, jq_c_0, jq_c_n, jwd_le, jw_c0, mS_I, mS_R, mS_J, mN_I, mN_R, mN_J, mR_I, mI_R, mJ_I, mJ_R, mI_J, mR_J, ↓reduceIte, decide_true, or_true, true_or, and_self, false_or, or_false, reduceCtorEq, Bool.false_eq_true, and_false, false_and, eq_self, true_and, and_true, zero_ne, hs0]
  rw [e00]
  clear e00
  generalize hw0 : setI w 238 0 0 = w0 at *
  have hq1 := X0.1
  have hv0 := X0.2.1
  have hm := X0.1.1
  have hh := X0.1.2.1
  have h3 := X0.1.2.2
  have hge := hh.ge
  have kc := hk.1
  have e := m_isCell hm hh h3 hk x1 x2 y1 y2
  obtain ⟨-, -, -, -, -, -, -, -, -, -, n1, n2, n3, n4, n5⟩ := ri.1.2.2
  unfold A41
  by_cases q : 0 ≤ x ∧ x < H 0 0 ∧ 0 ≤ y ∧ y < H 0 1
  · have c := cell_in hk q
    rw [if_pos q] at e
    have cm : H 0 0 * y + x = y * H 0 0 + x := by rw [Int.mul_comm]
    generalize y * H 0 0 + x = C at *
    have kg := hk.2.2.2.1 C c.1 c.2
    by_cases q2 : H 17 C.toNat = 2
    · rw [if_neg (fun z => z.2 q2)]
      refine ⟨_, ?_, hX.no hw0⟩
      simp (disch := omega) only [p302_0, p302_1, p302_2, p302_5, p302_6, p302_7, p302_8, p302_11, p302_14, p302_15, p302_18, p302_21, p302_22, p302_25, p302_28, p302_29, p302_30, p302_31, p302_32, p302_33, p302_34, p302_37, p302_38, p302_39, p302_42, p302_43, p302_44, p302_47, p302_50, p302_51, p302_53, p302_56, p302_57, p302_59, p302_62, p302_63, p302_64, p302_67, p302_70, p302_71, p302_72, p302_75, p302_78, p302_79, p302_80, p302_81, p302_82, p302_85, p302_86, p302_87, p302_90, p302_91, p302_92, p302_95, p302_96, p302_99, p302_102, p302_103, p302_106, p302_109, p302_110, p302_111, p302_112, p302_113, p302_114, p302_115, p302_118, p213_0, p213_1, p213_2, p213_5, p213_6, p213_7, p213_10, p213_11, p176_0, p176_1, p176_2, p176_5, p176_6, p176_7, p176_10, p176_11, p297_0, p297_1, p297_2, p297_5, p297_6, p297_7, p298_0, p298_1, p298_2, p298_5, p298_6, p298_7, jwd_c, jwd_0, Nat.reduceLeDiff, Nat.reduceEqDiff, Nat.reduceAdd, Nat.reduceSub, Nat.reduceMul, Int.reduceAdd, Int.reduceSub, Int.reduceMul, Int.reduceNeg, Int.reduceEq, Int.reduceLT, Int.reduceLE, jq_ldi_i, jq_ldl_l, jq_lda_a, jq_inc_i, jq_gs_t, jq_gsb_t, jq_gb_t, jq_gr_2, jq_gr_4, jq_gw_2, jq_s_t, jq_b_t, jg_c, jg_n, js_c, js_n, jrm_c, jrm_n, j2_i, j2_l, j2_a, jq_c_i, jq_c_l, jq_c_0, jq_c_n, jwd_le, jw_c0, mS_I, mS_R, mS_J, mN_I, mN_R, mN_J, mR_I, mI_R, mJ_I, mJ_R, mI_J, mR_J, ↓reduceIte, decide_true, or_true, true_or, and_self, false_or, or_false, reduceCtorEq, Bool.false_eq_true, and_false, false_and, eq_self, true_and, and_true, zero_ne, ↓br_lt_t, ↓br_lt_f, ↓br_eq_t, ↓br_eq_f, ↓br_lz_t, ↓br_lz_f, ↓br_ez_t, ↓br_ez_f, ↓br_gz_t, ↓br_gz_f, jw_id, jin_t, jix_t, ↓ite_t, ↓ite_f, MO.s0 hm, MO.s1 hm, MO.s2 hm, MO.s3 hm, MO.s4 hm, MO.s5 hm, MO.s6 hm, MO.s7 hm, MO.s8 hm, MO.s9 hm, MO.s10 hm, MO.s11 hm, MO.s12 hm, MO.s13 hm, MO.r1 hm, MO.r2 hm, MO.r3 hm, MO.r4 hm, MO.r5 hm, MO.r6 hm, MO.r7 hm, MO.r8 hm, MO.r9 hm, MO.r10 hm, MO.r11 hm, MO.r12 hm, MO.r13 hm, MH.s hh, MH.s1 hh, MH.s2 hh, MH.s3 hh, MH.s4 hh, MH.s5 hh, MH.s6 hh, MH.s7 hh, MH.s8 hh, MH.s9 hh, MH.s10 hh, MH.s11 hh, MH.s12 hh, MH.s13 hh, MH.s14 hh, MH.s15 hh, MH.r1 hh, MH.r2 hh, MH.r3 hh, MH.r4 hh, MH.r5 hh, MH.r6 hh, MH.r7 hh, MH.r8 hh, MH.r9 hh, MH.r10 hh, MH.r11 hh, MH.r12 hh, MH.r13 hh, MH.r14 hh, MH.r15 hh, MH.f0 hh, MH.f1 hh, MH.f2 hh, MH.f3 hh, MH.f4 hh, MH.f5 hh, MH.f6 hh, MH.f7 hh, MH.f8 hh, MH.f9 hh, MH.f10 hh, MH.f11 hh, MH.f12 hh, MH.f13 hh, MH.f14 hh, MH.f15 hh, MH.f16 hh, MH.a1 hh, MH.a2 hh, MH.a3 hh, MH.a4 hh, MH.a5 hh, MH.a6 hh, MH.a7 hh, MH.a8 hh, MH.a9 hh, MH.a10 hh, MH.a11 hh, MH.a12 hh, MH.a13 hh, MH.a14 hh, MH.a15 hh, h3, e, cm]
    · rw [if_pos ⟨q, q2⟩]
      by_cases q3 : 0 ≤ s.1 296
      · rw [if_pos q3]
        by_cases q4 : s.1 296 = C
        · rw [if_pos q4]
          refine ⟨_, ?_, hX.no hw0⟩
          simp (disch := omega) only [p302_0, p302_1, p302_2, p302_5, p302_6, p302_7, p302_8, p302_11, p302_14, p302_15, p302_18, p302_21, p302_22, p302_25, p302_28, p302_29, p302_30, p302_31, p302_32, p302_33, p302_34, p302_37, p302_38, p302_39, p302_42, p302_43, p302_44, p302_47, p302_50, p302_51, p302_53, p302_56, p302_57, p302_59, p302_62, p302_63, p302_64, p302_67, p302_70, p302_71, p302_72, p302_75, p302_78, p302_79, p302_80, p302_81, p302_82, p302_85, p302_86, p302_87, p302_90, p302_91, p302_92, p302_95, p302_96, p302_99, p302_102, p302_103, p302_106, p302_109, p302_110, p302_111, p302_112, p302_113, p302_114, p302_115, p302_118, p213_0, p213_1, p213_2, p213_5, p213_6, p213_7, p213_10, p213_11, p176_0, p176_1, p176_2, p176_5, p176_6, p176_7, p176_10, p176_11, p297_0, p297_1, p297_2, p297_5, p297_6, p297_7, p298_0, p298_1, p298_2, p298_5, p298_6, p298_7, jwd_c, jwd_0, Nat.reduceLeDiff, Nat.reduceEqDiff, Nat.reduceAdd, Nat.reduceSub, Nat.reduceMul, Int.reduceAdd, Int.reduceSub, Int.reduceMul, Int.reduceNeg, Int.reduceEq, Int.reduceLT, Int.reduceLE, jq_ldi_i, jq_ldl_l, jq_lda_a, jq_inc_i, jq_gs_t, jq_gsb_t, jq_gb_t, jq_gr_2, jq_gr_4, jq_gw_2, jq_s_t, jq_b_t, jg_c, jg_n, js_c, js_n, jrm_c, jrm_n, j2_i, j2_l, j2_a, jq_c_i, jq_c_l, jq_c_0, jq_c_n, jwd_le, jw_c0, mS_I, mS_R, mS_J, mN_I, mN_R, mN_J, mR_I, mI_R, mJ_I, mJ_R, mI_J, mR_J, ↓reduceIte, decide_true, or_true, true_or, and_self, false_or, or_false, reduceCtorEq, Bool.false_eq_true, and_false, false_and, eq_self, true_and, and_true, zero_ne, ↓br_lt_t, ↓br_lt_f, ↓br_eq_t, ↓br_eq_f, ↓br_lz_t, ↓br_lz_f, ↓br_ez_t, ↓br_ez_f, ↓br_gz_t, ↓br_gz_f, jw_id, jin_t, jix_t, ↓ite_t, ↓ite_f, MO.s0 hm, MO.s1 hm, MO.s2 hm, MO.s3 hm, MO.s4 hm, MO.s5 hm, MO.s6 hm, MO.s7 hm, MO.s8 hm, MO.s9 hm, MO.s10 hm, MO.s11 hm, MO.s12 hm, MO.s13 hm, MO.r1 hm, MO.r2 hm, MO.r3 hm, MO.r4 hm, MO.r5 hm, MO.r6 hm, MO.r7 hm, MO.r8 hm, MO.r9 hm, MO.r10 hm, MO.r11 hm, MO.r12 hm, MO.r13 hm, MH.s hh, MH.s1 hh, MH.s2 hh, MH.s3 hh, MH.s4 hh, MH.s5 hh, MH.s6 hh, MH.s7 hh, MH.s8 hh, MH.s9 hh, MH.s10 hh, MH.s11 hh, MH.s12 hh, MH.s13 hh, MH.s14 hh, MH.s15 hh, MH.r1 hh, MH.r2 hh, MH.r3 hh, MH.r4 hh, MH.r5 hh, MH.r6 hh, MH.r7 hh, MH.r8 hh, MH.r9 hh, MH.r10 hh, MH.r11 hh, MH.r12 hh, MH.r13 hh, MH.r14 hh, MH.r15 hh, MH.f0 hh, MH.f1 hh, MH.f2 hh, MH.f3 hh, MH.f4 hh, MH.f5 hh, MH.f6 hh, MH.f7 hh, MH.f8 hh, MH.f9 hh, MH.f10 hh, MH.f11 hh, MH.f12 hh, MH.f13 hh, MH.f14 hh, MH.f15 hh, MH.f16 hh, MH.a1 hh, MH.a2 hh, MH.a3 hh, MH.a4 hh, MH.a5 hh, MH.a6 hh, MH.a7 hh, MH.a8 hh, MH.a9 hh, MH.a10 hh, MH.a11 hh, MH.a12 hh, MH.a13 hh, MH.a14 hh, MH.a15 hh, h3, e, cm, hv0, Int.reduceToNat]
        · rw [if_neg q4]
          obtain ⟨w1, e1, X1, f1, r1, k1⟩ := X0.keep
          have hm1 := X1.1.1
          have hh1 := X1.1.2.1
          have h31 := X1.1.2.2
          have hv1 : mI w1 241 = s.1 := X1.2.1
          have X2 := X1.row (f := up1 s.1 296 C)
          refine ⟨_, ?_, X2.fin hw0 (f1 (Fr.A (P := fun b => b = 241) rfl) (fun b hb => by omega)) (by rw [← hw0] at r1; exact r1) (fun k k2 k3 => by rw [mI_nA (by omega)]; exact k1 k k2 k3)⟩
          simp (disch := omega) only [p302_0, p302_1, p302_2, p302_5, p302_6, p302_7, p302_8, p302_11, p302_14, p302_15, p302_18, p302_21, p302_22, p302_25, p302_28, p302_29, p302_30, p302_31, p302_32, p302_33, p302_34, p302_37, p302_38, p302_39, p302_42, p302_43, p302_44, p302_47, p302_50, p302_51, p302_53, p302_56, p302_57, p302_59, p302_62, p302_63, p302_64, p302_67, p302_70, p302_71, p302_72, p302_75, p302_78, p302_79, p302_80, p302_81, p302_82, p302_85, p302_86, p302_87, p302_90, p302_91, p302_92, p302_95, p302_96, p302_99, p302_102, p302_103, p302_106, p302_109, p302_110, p302_111, p302_112, p302_113, p302_114, p302_115, p302_118, p213_0, p213_1, p213_2, p213_5, p213_6, p213_7, p213_10, p213_11, p176_0, p176_1, p176_2, p176_5, p176_6, p176_7, p176_10, p176_11, p297_0, p297_1, p297_2, p297_5, p297_6, p297_7, p298_0, p298_1, p298_2, p298_5, p298_6, p298_7, jwd_c, jwd_0, Nat.reduceLeDiff, Nat.reduceEqDiff, Nat.reduceAdd, Nat.reduceSub, Nat.reduceMul, Int.reduceAdd, Int.reduceSub, Int.reduceMul, Int.reduceNeg, Int.reduceEq, Int.reduceLT, Int.reduceLE, jq_ldi_i, jq_ldl_l, jq_lda_a, jq_inc_i, jq_gs_t, jq_gsb_t, jq_gb_t, jq_gr_2, jq_gr_4, jq_gw_2, jq_s_t, jq_b_t, jg_c, jg_n, js_c, js_n, jrm_c, jrm_n, j2_i, j2_l, j2_a, jq_c_i, jq_c_l, jq_c_0, jq_c_n, jwd_le, jw_c0, mS_I, mS_R, mS_J, mN_I, mN_R, mN_J, mR_I, mI_R, mJ_I, mJ_R, mI_J, mR_J, ↓reduceIte, decide_true, or_true, true_or, and_self, false_or, or_false, reduceCtorEq, Bool.false_eq_true, and_false, false_and, eq_self, true_and, and_true, zero_ne, ↓br_lt_t, ↓br_lt_f, ↓br_eq_t, ↓br_eq_f, ↓br_lz_t, ↓br_lz_f, ↓br_ez_t, ↓br_ez_f, ↓br_gz_t, ↓br_gz_f, jw_id, jin_t, jix_t, ↓ite_t, ↓ite_f, MO.s0 hm, MO.s1 hm, MO.s2 hm, MO.s3 hm, MO.s4 hm, MO.s5 hm, MO.s6 hm, MO.s7 hm, MO.s8 hm, MO.s9 hm, MO.s10 hm, MO.s11 hm, MO.s12 hm, MO.s13 hm, MO.r1 hm, MO.r2 hm, MO.r3 hm, MO.r4 hm, MO.r5 hm, MO.r6 hm, MO.r7 hm, MO.r8 hm, MO.r9 hm, MO.r10 hm, MO.r11 hm, MO.r12 hm, MO.r13 hm, MH.s hh, MH.s1 hh, MH.s2 hh, MH.s3 hh, MH.s4 hh, MH.s5 hh, MH.s6 hh, MH.s7 hh, MH.s8 hh, MH.s9 hh, MH.s10 hh, MH.s11 hh, MH.s12 hh, MH.s13 hh, MH.s14 hh, MH.s15 hh, MH.r1 hh, MH.r2 hh, MH.r3 hh, MH.r4 hh, MH.r5 hh, MH.r6 hh, MH.r7 hh, MH.r8 hh, MH.r9 hh, MH.r10 hh, MH.r11 hh, MH.r12 hh, MH.r13 hh, MH.r14 hh, MH.r15 hh, MH.f0 hh, MH.f1 hh, MH.f2 hh, MH.f3 hh, MH.f4 hh, MH.f5 hh, MH.f6 hh, MH.f7 hh, MH.f8 hh, MH.f9 hh, MH.f10 hh, MH.f11 hh, MH.f12 hh, MH.f13 hh, MH.f14 hh, MH.f15 hh, MH.f16 hh, MH.a1 hh, MH.a2 hh, MH.a3 hh, MH.a4 hh, MH.a5 hh, MH.a6 hh, MH.a7 hh, MH.a8 hh, MH.a9 hh, MH.a10 hh, MH.a11 hh, MH.a12 hh, MH.a13 hh, MH.a14 hh, MH.a15 hh, h3, e, cm, hv0, Int.reduceToNat, e1, MO.s0 hm1, MO.r3 hm1, MO.s3 hm1, h31, MH.s hh1, MH.f0 hh1, setI_A, hv1, mI_nA, mS_A]
      · rw [if_neg q3]
        refine ⟨_, ?_, hX.no hw0⟩
        simp (disch := omega) only [p302_0, p302_1, p302_2, p302_5, p302_6, p302_7, p302_8, p302_11, p302_14, p302_15, p302_18, p302_21, p302_22, p302_25, p302_28, p302_29, p302_30, p302_31, p302_32, p302_33, p302_34, p302_37, p302_38, p302_39, p302_42, p302_43, p302_44, p302_47, p302_50, p302_51, p302_53, p302_56, p302_57, p302_59, p302_62, p302_63, p302_64, p302_67, p302_70, p302_71, p302_72, p302_75, p302_78, p302_79, p302_80, p302_81, p302_82, p302_85, p302_86, p302_87, p302_90, p302_91, p302_92, p302_95, p302_96, p302_99, p302_102, p302_103, p302_106, p302_109, p302_110, p302_111, p302_112, p302_113, p302_114, p302_115, p302_118, p213_0, p213_1, p213_2, p213_5, p213_6, p213_7, p213_10, p213_11, p176_0, p176_1, p176_2, p176_5, p176_6, p176_7, p176_10, p176_11, p297_0, p297_1, p297_2, p297_5, p297_6, p297_7, p298_0, p298_1, p298_2, p298_5, p298_6, p298_7, jwd_c, jwd_0, Nat.reduceLeDiff, Nat.reduceEqDiff, Nat.reduceAdd, Nat.reduceSub, Nat.reduceMul, Int.reduceAdd, Int.reduceSub, Int.reduceMul, Int.reduceNeg, Int.reduceEq, Int.reduceLT, Int.reduceLE, jq_ldi_i, jq_ldl_l, jq_lda_a, jq_inc_i, jq_gs_t, jq_gsb_t, jq_gb_t, jq_gr_2, jq_gr_4, jq_gw_2, jq_s_t, jq_b_t, jg_c, jg_n, js_c, js_n, jrm_c, jrm_n, j2_i, j2_l, j2_a, jq_c_i, jq_c_l, jq_c_0, jq_c_n, jwd_le, jw_c0, mS_I, mS_R, mS_J, mN_I, mN_R, mN_J, mR_I, mI_R, mJ_I, mJ_R, mI_J, mR_J, ↓reduceIte, decide_true, or_true, true_or, and_self, false_or, or_false, reduceCtorEq, Bool.false_eq_true, and_false, false_and, eq_self, true_and, and_true, zero_ne, ↓br_lt_t, ↓br_lt_f, ↓br_eq_t, ↓br_eq_f, ↓br_lz_t, ↓br_lz_f, ↓br_ez_t, ↓br_ez_f, ↓br_gz_t, ↓br_gz_f, jw_id, jin_t, jix_t, ↓ite_t, ↓ite_f, MO.s0 hm, MO.s1 hm, MO.s2 hm, MO.s3 hm, MO.s4 hm, MO.s5 hm, MO.s6 hm, MO.s7 hm, MO.s8 hm, MO.s9 hm, MO.s10 hm, MO.s11 hm, MO.s12 hm, MO.s13 hm, MO.r1 hm, MO.r2 hm, MO.r3 hm, MO.r4 hm, MO.r5 hm, MO.r6 hm, MO.r7 hm, MO.r8 hm, MO.r9 hm, MO.r10 hm, MO.r11 hm, MO.r12 hm, MO.r13 hm, MH.s hh, MH.s1 hh, MH.s2 hh, MH.s3 hh, MH.s4 hh, MH.s5 hh, MH.s6 hh, MH.s7 hh, MH.s8 hh, MH.s9 hh, MH.s10 hh, MH.s11 hh, MH.s12 hh, MH.s13 hh, MH.s14 hh, MH.s15 hh, MH.r1 hh, MH.r2 hh, MH.r3 hh, MH.r4 hh, MH.r5 hh, MH.r6 hh, MH.r7 hh, MH.r8 hh, MH.r9 hh, MH.r10 hh, MH.r11 hh, MH.r12 hh, MH.r13 hh, MH.r14 hh, MH.r15 hh, MH.f0 hh, MH.f1 hh, MH.f2 hh, MH.f3 hh, MH.f4 hh, MH.f5 hh, MH.f6 hh, MH.f7 hh, MH.f8 hh, MH.f9 hh, MH.f10 hh, MH.f11 hh, MH.f12 hh, MH.f13 hh, MH.f14 hh, MH.f15 hh, MH.f16 hh, MH.a1 hh, MH.a2 hh, MH.a3 hh, MH.a4 hh, MH.a5 hh, MH.a6 hh, MH.a7 hh, MH.a8 hh, MH.a9 hh, MH.a10 hh, MH.a11 hh, MH.a12 hh, MH.a13 hh, MH.a14 hh, MH.a15 hh, h3, e, cm, hv0, Int.reduceToNat]
  · rw [if_neg q] at e
    rw [if_neg (fun z => q z.1)]
    refine ⟨_, ?_, hX.no hw0⟩
    simp (disch := omega) only [p302_0, p302_1, p302_2, p302_5, p302_6, p302_7, p302_8, p302_11, p302_14, p302_15, p302_18, p302_21, p302_22, p302_25, p302_28, p302_29, p302_30, p302_31, p302_32, p302_33, p302_34, p302_37, p302_38, p302_39, p302_42, p302_43, p302_44, p302_47, p302_50, p302_51, p302_53, p302_56, p302_57, p302_59, p302_62, p302_63, p302_64, p302_67, p302_70, p302_71, p302_72, p302_75, p302_78, p302_79, p302_80, p302_81, p302_82, p302_85, p302_86, p302_87, p302_90, p302_91, p302_92, p302_95, p302_96, p302_99, p302_102, p302_103, p302_106, p302_109, p302_110, p302_111, p302_112, p302_113, p302_114, p302_115, p302_118, p213_0, p213_1, p213_2, p213_5, p213_6, p213_7, p213_10, p213_11, p176_0, p176_1, p176_2, p176_5, p176_6, p176_7, p176_10, p176_11, p297_0, p297_1, p297_2, p297_5, p297_6, p297_7, p298_0, p298_1, p298_2, p298_5, p298_6, p298_7, jwd_c, jwd_0, Nat.reduceLeDiff, Nat.reduceEqDiff, Nat.reduceAdd, Nat.reduceSub, Nat.reduceMul, Int.reduceAdd, Int.reduceSub, Int.reduceMul, Int.reduceNeg, Int.reduceEq, Int.reduceLT, Int.reduceLE, jq_ldi_i, jq_ldl_l, jq_lda_a, jq_inc_i, jq_gs_t, jq_gsb_t, jq_gb_t, jq_gr_2, jq_gr_4, jq_gw_2, jq_s_t, jq_b_t, jg_c, jg_n, js_c, js_n, jrm_c, jrm_n, j2_i, j2_l, j2_a, jq_c_i, jq_c_l, jq_c_0, jq_c_n, jwd_le, jw_c0, mS_I, mS_R, mS_J, mN_I, mN_R, mN_J, mR_I, mI_R, mJ_I, mJ_R, mI_J, mR_J, ↓reduceIte, decide_true, or_true, true_or, and_self, false_or, or_false, reduceCtorEq, Bool.false_eq_true, and_false, false_and, eq_self, true_and, and_true, zero_ne, ↓br_lt_t, ↓br_lt_f, ↓br_eq_t, ↓br_eq_f, ↓br_lz_t, ↓br_lz_f, ↓br_ez_t, ↓br_ez_f, ↓br_gz_t, ↓br_gz_f, jw_id, jin_t, jix_t, ↓ite_t, ↓ite_f, MO.s0 hm, MO.s1 hm, MO.s2 hm, MO.s3 hm, MO.s4 hm, MO.s5 hm, MO.s6 hm, MO.s7 hm, MO.s8 hm, MO.s9 hm, MO.s10 hm, MO.s11 hm, MO.s12 hm, MO.s13 hm, MO.r1 hm, MO.r2 hm, MO.r3 hm, MO.r4 hm, MO.r5 hm, MO.r6 hm, MO.r7 hm, MO.r8 hm, MO.r9 hm, MO.r10 hm, MO.r11 hm, MO.r12 hm, MO.r13 hm, MH.s hh, MH.s1 hh, MH.s2 hh, MH.s3 hh, MH.s4 hh, MH.s5 hh, MH.s6 hh, MH.s7 hh, MH.s8 hh, MH.s9 hh, MH.s10 hh, MH.s11 hh, MH.s12 hh, MH.s13 hh, MH.s14 hh, MH.s15 hh, MH.r1 hh, MH.r2 hh, MH.r3 hh, MH.r4 hh, MH.r5 hh, MH.r6 hh, MH.r7 hh, MH.r8 hh, MH.r9 hh, MH.r10 hh, MH.r11 hh, MH.r12 hh, MH.r13 hh, MH.r14 hh, MH.r15 hh, MH.f0 hh, MH.f1 hh, MH.f2 hh, MH.f3 hh, MH.f4 hh, MH.f5 hh, MH.f6 hh, MH.f7 hh, MH.f8 hh, MH.f9 hh, MH.f10 hh, MH.f11 hh, MH.f12 hh, MH.f13 hh, MH.f14 hh, MH.f15 hh, MH.f16 hh, MH.a1 hh, MH.a2 hh, MH.a3 hh, MH.a4 hh, MH.a5 hh, MH.a6 hh, MH.a7 hh, MH.a8 hh, MH.a9 hh, MH.a10 hh, MH.a11 hh, MH.a12 hh, MH.a13 hh, MH.a14 hh, MH.a15 hh, h3, e]
theorem d_letGo (hX : mX w h H s) (ri : RI H B s.1) {i : Int} (x1 : -2147483648 ≤ i) (x2 : i < 2147483648) : ∃ u, rn 301 (0, [(0, jvr 238), (1, .inl i)], [], w) = some (some (.inl (A40 s i).1), u) ∧ qN w u h H (A40 s i).2.2 (A40 s i).2.1 := by
  have hs0 := hX.1.1.s0
  have X0 := hX.z
  have e00 : rn 301 (0, [(0, jvr 238), (1, .inl i)], [], w) = rn 301 (5, [(0, jvr 238), (1, .inl i)], [], setI w 238 0 0) := by
    simp only [p301_0, p301_1, p301_2, jwd_c, jwd_0, Nat.reduceLeDiff, Nat.reduceEqDiff, Nat.reduceAdd, Nat.reduceSub, Nat.reduceMul, Int.reduceAdd, Int.reduceSub, Int.reduceMul, Int.reduceNeg, Int.reduceEq, Int.reduceLT, Int.reduceLE, jq_ldi_i, jq_ldl_l, jq_lda_a, jq_inc_i, jq_gs_t, jq_gsb_t, jq_gb_t, jq_gr_2, jq_gr_4, jq_gw_2, jq_s_t, jq_b_t, jg_c, jg_n, js_c, js_n, jrm_c, jrm_n, j2_i, j2_l, j2_a, jq_c_i, jq_c_l, jq_c_0, jq_c_n, jwd_le, jw_c0, mS_I, mS_R, mS_J, mN_I, mN_R, mN_J, mR_I, mI_R, mJ_I, mJ_R, mI_J, mR_J, ↓reduceIte, decide_true, or_true, true_or, and_self, false_or, or_false, reduceCtorEq, Bool.false_eq_true, and_false, false_and, eq_self, true_and, and_true, zero_ne, hs0]
  rw [e00]
  clear e00
  generalize hw0 : setI w 238 0 0 = w0 at *
  have hq1 := X0.1
  have hv0 := X0.2.1
  have hm := X0.1.1
  have hh := X0.1.2.1
  have h3 := X0.1.2.2
  have hge := hh.ge
  have h16 := ri.1.1
  have e0 := m_isThere hm h3 hv0 ri.1 x1 x2
  unfold A40
  by_cases q : 0 ≤ i ∧ i < s.1 289
  · rw [if_pos q] at e0 ⊢
    by_cases q2 : i = 0
    · rw [if_pos q2]
      refine ⟨_, ?_, hX.no hw0⟩
      simp (disch := omega) only [p301_0, p301_1, p301_2, p301_5, p301_6, p301_7, p301_10, p301_13, p301_14, p301_15, p301_18, p301_19, p301_20, p301_23, p301_24, p301_25, p301_28, p301_29, p301_30, p301_33, p301_34, p301_37, p301_38, p301_41, p301_42, p301_45, p213_0, p213_1, p213_2, p213_5, p213_6, p213_7, p213_10, p213_11, p176_0, p176_1, p176_2, p176_5, p176_6, p176_7, p176_10, p176_11, p297_0, p297_1, p297_2, p297_5, p297_6, p297_7, p298_0, p298_1, p298_2, p298_5, p298_6, p298_7, jwd_c, jwd_0, Nat.reduceLeDiff, Nat.reduceEqDiff, Nat.reduceAdd, Nat.reduceSub, Nat.reduceMul, Int.reduceAdd, Int.reduceSub, Int.reduceMul, Int.reduceNeg, Int.reduceEq, Int.reduceLT, Int.reduceLE, jq_ldi_i, jq_ldl_l, jq_lda_a, jq_inc_i, jq_gs_t, jq_gsb_t, jq_gb_t, jq_gr_2, jq_gr_4, jq_gw_2, jq_s_t, jq_b_t, jg_c, jg_n, js_c, js_n, jrm_c, jrm_n, j2_i, j2_l, j2_a, jq_c_i, jq_c_l, jq_c_0, jq_c_n, jwd_le, jw_c0, mS_I, mS_R, mS_J, mN_I, mN_R, mN_J, mR_I, mI_R, mJ_I, mJ_R, mI_J, mR_J, ↓reduceIte, decide_true, or_true, true_or, and_self, false_or, or_false, reduceCtorEq, Bool.false_eq_true, and_false, false_and, eq_self, true_and, and_true, zero_ne, ↓br_lt_t, ↓br_lt_f, ↓br_eq_t, ↓br_eq_f, ↓br_lz_t, ↓br_lz_f, ↓br_ez_t, ↓br_ez_f, ↓br_gz_t, ↓br_gz_f, jw_id, jin_t, jix_t, ↓ite_t, ↓ite_f, MO.s0 hm, MO.s1 hm, MO.s2 hm, MO.s3 hm, MO.s4 hm, MO.s5 hm, MO.s6 hm, MO.s7 hm, MO.s8 hm, MO.s9 hm, MO.s10 hm, MO.s11 hm, MO.s12 hm, MO.s13 hm, MO.r1 hm, MO.r2 hm, MO.r3 hm, MO.r4 hm, MO.r5 hm, MO.r6 hm, MO.r7 hm, MO.r8 hm, MO.r9 hm, MO.r10 hm, MO.r11 hm, MO.r12 hm, MO.r13 hm, e0]
    · rw [if_neg q2]
      obtain ⟨w1, e1, X1, f1, r1, k1⟩ := X0.keep
      have hm1 := X1.1.1
      have hv1 : mI w1 241 = s.1 := X1.2.1
      have e2 := m_outs (w := w1) (a := 241) hm1.s3 hv1 (i := i) q.1 q.2 (by omega)
      have X2 := X1.row (f := gOut s.1 i)
      refine ⟨_, ?_, X2.fin hw0 (f1 (Fr.A (P := fun b => b = 241) rfl) (fun b hb => by omega)) (by rw [← hw0] at r1; exact r1) (fun k k2 k3 => by rw [mI_nA (by omega)]; exact k1 k k2 k3)⟩
      simp (disch := omega) only [p301_0, p301_1, p301_2, p301_5, p301_6, p301_7, p301_10, p301_13, p301_14, p301_15, p301_18, p301_19, p301_20, p301_23, p301_24, p301_25, p301_28, p301_29, p301_30, p301_33, p301_34, p301_37, p301_38, p301_41, p301_42, p301_45, p213_0, p213_1, p213_2, p213_5, p213_6, p213_7, p213_10, p213_11, p176_0, p176_1, p176_2, p176_5, p176_6, p176_7, p176_10, p176_11, p297_0, p297_1, p297_2, p297_5, p297_6, p297_7, p298_0, p298_1, p298_2, p298_5, p298_6, p298_7, jwd_c, jwd_0, Nat.reduceLeDiff, Nat.reduceEqDiff, Nat.reduceAdd, Nat.reduceSub, Nat.reduceMul, Int.reduceAdd, Int.reduceSub, Int.reduceMul, Int.reduceNeg, Int.reduceEq, Int.reduceLT, Int.reduceLE, jq_ldi_i, jq_ldl_l, jq_lda_a, jq_inc_i, jq_gs_t, jq_gsb_t, jq_gb_t, jq_gr_2, jq_gr_4, jq_gw_2, jq_s_t, jq_b_t, jg_c, jg_n, js_c, js_n, jrm_c, jrm_n, j2_i, j2_l, j2_a, jq_c_i, jq_c_l, jq_c_0, jq_c_n, jwd_le, jw_c0, mS_I, mS_R, mS_J, mN_I, mN_R, mN_J, mR_I, mI_R, mJ_I, mJ_R, mI_J, mR_J, ↓reduceIte, decide_true, or_true, true_or, and_self, false_or, or_false, reduceCtorEq, Bool.false_eq_true, and_false, false_and, eq_self, true_and, and_true, zero_ne, ↓br_lt_t, ↓br_lt_f, ↓br_eq_t, ↓br_eq_f, ↓br_lz_t, ↓br_lz_f, ↓br_ez_t, ↓br_ez_f, ↓br_gz_t, ↓br_gz_f, jw_id, jin_t, jix_t, ↓ite_t, ↓ite_f, MO.s0 hm, MO.s1 hm, MO.s2 hm, MO.s3 hm, MO.s4 hm, MO.s5 hm, MO.s6 hm, MO.s7 hm, MO.s8 hm, MO.s9 hm, MO.s10 hm, MO.s11 hm, MO.s12 hm, MO.s13 hm, MO.r1 hm, MO.r2 hm, MO.r3 hm, MO.r4 hm, MO.r5 hm, MO.r6 hm, MO.r7 hm, MO.r8 hm, MO.r9 hm, MO.r10 hm, MO.r11 hm, MO.r12 hm, MO.r13 hm, e0, e1, MO.s0 hm1, MO.r3 hm1, e2, mS_A, setA_A]
  · rw [if_neg q] at e0 ⊢
    refine ⟨_, ?_, hX.no hw0⟩
    simp (disch := omega) only [p301_0, p301_1, p301_2, p301_5, p301_6, p301_7, p301_10, p301_13, p301_14, p301_15, p301_18, p301_19, p301_20, p301_23, p301_24, p301_25, p301_28, p301_29, p301_30, p301_33, p301_34, p301_37, p301_38, p301_41, p301_42, p301_45, p213_0, p213_1, p213_2, p213_5, p213_6, p213_7, p213_10, p213_11, p176_0, p176_1, p176_2, p176_5, p176_6, p176_7, p176_10, p176_11, p297_0, p297_1, p297_2, p297_5, p297_6, p297_7, p298_0, p298_1, p298_2, p298_5, p298_6, p298_7, jwd_c, jwd_0, Nat.reduceLeDiff, Nat.reduceEqDiff, Nat.reduceAdd, Nat.reduceSub, Nat.reduceMul, Int.reduceAdd, Int.reduceSub, Int.reduceMul, Int.reduceNeg, Int.reduceEq, Int.reduceLT, Int.reduceLE, jq_ldi_i, jq_ldl_l, jq_lda_a, jq_inc_i, jq_gs_t, jq_gsb_t, jq_gb_t, jq_gr_2, jq_gr_4, jq_gw_2, jq_s_t, jq_b_t, jg_c, jg_n, js_c, js_n, jrm_c, jrm_n, j2_i, j2_l, j2_a, jq_c_i, jq_c_l, jq_c_0, jq_c_n, jwd_le, jw_c0, mS_I, mS_R, mS_J, mN_I, mN_R, mN_J, mR_I, mI_R, mJ_I, mJ_R, mI_J, mR_J, ↓reduceIte, decide_true, or_true, true_or, and_self, false_or, or_false, reduceCtorEq, Bool.false_eq_true, and_false, false_and, eq_self, true_and, and_true, zero_ne, ↓br_lt_t, ↓br_lt_f, ↓br_eq_t, ↓br_eq_f, ↓br_lz_t, ↓br_lz_f, ↓br_ez_t, ↓br_ez_f, ↓br_gz_t, ↓br_gz_f, jw_id, jin_t, jix_t, ↓ite_t, ↓ite_f, MO.s0 hm, MO.s1 hm, MO.s2 hm, MO.s3 hm, MO.s4 hm, MO.s5 hm, MO.s6 hm, MO.s7 hm, MO.s8 hm, MO.s9 hm, MO.s10 hm, MO.s11 hm, MO.s12 hm, MO.s13 hm, MO.r1 hm, MO.r2 hm, MO.r3 hm, MO.r4 hm, MO.r5 hm, MO.r6 hm, MO.r7 hm, MO.r8 hm, MO.r9 hm, MO.r10 hm, MO.r11 hm, MO.r12 hm, MO.r13 hm, e0]
def gSw1 (r : Nat → Int) (p i j : Int) : Nat → Int := up1 (up1 r (p + i).toNat (r (p + j).toNat)) (p + j).toNat (r (p + i).toNat)
theorem m_swapsIn (hm : MO w) (hv : mI w 241 = r) {p i j : Int} (p1 : 0 ≤ p) (p2 : p ≤ 268) (i1 : 0 ≤ i) (i2 : i < 16) (j1 : 0 ≤ j) (j2 : j < 16) : rn 300 (0, [(0, jvr 238), (1, .inl p), (2, .inl i), (3, .inl j)], [], w) = some (none, setA w 241 (gSw1 r p i j)) := by
  unfold gSw1
  simp (disch := omega) only [p300_0, p300_1, p300_4, p300_5, p300_6, p300_7, p300_8, p300_10, p300_11, p300_14, p300_15, p300_16, p300_17, p300_18, p300_21, p300_22, p300_23, p300_24, p300_25, p300_26, p300_27, p300_30, p300_31, p300_32, p300_33, p300_35, p300_36, jwd_c, jwd_0, Nat.reduceLeDiff, Nat.reduceEqDiff, Nat.reduceAdd, Nat.reduceSub, Nat.reduceMul, Int.reduceAdd, Int.reduceSub, Int.reduceMul, Int.reduceNeg, Int.reduceEq, Int.reduceLT, Int.reduceLE, jq_ldi_i, jq_ldl_l, jq_lda_a, jq_inc_i, jq_gs_t, jq_gsb_t, jq_gb_t, jq_gr_2, jq_gr_4, jq_gw_2, jq_s_t, jq_b_t, jg_c, jg_n, js_c, js_n, jrm_c, jrm_n, j2_i, j2_l, j2_a, jq_c_i, jq_c_l, jq_c_0, jq_c_n, jwd_le, jw_c0, mS_I, mS_R, mS_J, mN_I, mN_R, mN_J, mR_I, mI_R, mJ_I, mJ_R, mI_J, mR_J, ↓reduceIte, decide_true, or_true, true_or, and_self, false_or, or_false, reduceCtorEq, Bool.false_eq_true, and_false, false_and, eq_self, true_and, and_true, zero_ne, ↓br_lt_t, ↓br_lt_f, ↓br_eq_t, ↓br_eq_f, ↓br_lz_t, ↓br_lz_f, ↓br_ez_t, ↓br_ez_f, ↓br_gz_t, ↓br_gz_f, jw_id, jin_t, jix_t, ↓ite_t, ↓ite_f, MO.s0 hm, MO.s1 hm, MO.s2 hm, MO.s3 hm, MO.s4 hm, MO.s5 hm, MO.s6 hm, MO.s7 hm, MO.s8 hm, MO.s9 hm, MO.s10 hm, MO.s11 hm, MO.s12 hm, MO.s13 hm, MO.r1 hm, MO.r2 hm, MO.r3 hm, MO.r4 hm, MO.r5 hm, MO.r6 hm, MO.r7 hm, MO.r8 hm, MO.r9 hm, MO.r10 hm, MO.r11 hm, MO.r12 hm, MO.r13 hm, setI_A, mI_A, setA_A, mS_A, mR_A, hv, mI_nA]
theorem swp_eq {r : Nat → Int} {i j : Int} (i1 : 0 ≤ i) (i2 : i < 16) (j1 : 0 ≤ j) (j2 : j < 16) (hn : i ≠ j) : gSw1 (gSw1 (gSw1 (gSw1 r 204 i j) 236 i j) 252 i j) 268 i j = gSwp r i j := by
  funext k
  unfold gSw1 gSwp gTake
  by_cases h1 : k = (268 + j).toNat
  · subst h1
    simp (disch := omega) only [up1_s, up1_n]
  by_cases h2 : k = (268 + i).toNat
  · subst h2
    simp (disch := omega) only [up1_s, up1_n]
  by_cases h3 : k = (252 + j).toNat
  · subst h3
    simp (disch := omega) only [up1_s, up1_n]
  by_cases h4 : k = (252 + i).toNat
  · subst h4
    simp (disch := omega) only [up1_s, up1_n]
  by_cases h5 : k = (236 + j).toNat
  · subst h5
    simp (disch := omega) only [up1_s, up1_n]
  by_cases h6 : k = (236 + i).toNat
  · subst h6
    simp (disch := omega) only [up1_s, up1_n]
  by_cases h7 : k = (204 + j).toNat
  · subst h7
    simp (disch := omega) only [up1_s, up1_n]
  by_cases h8 : k = (204 + i).toNat
  · subst h8
    simp (disch := omega) only [up1_s, up1_n]
  simp (disch := omega) only [up1_n]
theorem d_change (hX : mX w h H s) (ri : RI H B s.1) {i j : Int} (x1 : -2147483648 ≤ i) (x2 : i < 2147483648) (y1 : -2147483648 ≤ j) (y2 : j < 2147483648) : ∃ u, rn 299 (0, [(0, jvr 238), (1, .inl i), (2, .inl j)], [], w) = some (some (.inl (A39 s i j).1), u) ∧ qN w u h H (A39 s i j).2.2 (A39 s i j).2.1 := by
  have hs0 := hX.1.1.s0
  have X0 := hX.z
  have e00 : rn 299 (0, [(0, jvr 238), (1, .inl i), (2, .inl j)], [], w) = rn 299 (5, [(0, jvr 238), (1, .inl i), (2, .inl j)], [], setI w 238 0 0) := by
    simp only [p299_0, p299_1, p299_2, jwd_c, jwd_0, Nat.reduceLeDiff, Nat.reduceEqDiff, Nat.reduceAdd, Nat.reduceSub, Nat.reduceMul, Int.reduceAdd, Int.reduceSub, Int.reduceMul, Int.reduceNeg, Int.reduceEq, Int.reduceLT, Int.reduceLE, jq_ldi_i, jq_ldl_l, jq_lda_a, jq_inc_i, jq_gs_t, jq_gsb_t, jq_gb_t, jq_gr_2, jq_gr_4, jq_gw_2, jq_s_t, jq_b_t, jg_c, jg_n, js_c, js_n, jrm_c, jrm_n, j2_i, j2_l, j2_a, jq_c_i, jq_c_l, jq_c_0, jq_c_n, jwd_le, jw_c0, mS_I, mS_R, mS_J, mN_I, mN_R, mN_J, mR_I, mI_R, mJ_I, mJ_R, mI_J, mR_J, ↓reduceIte, decide_true, or_true, true_or, and_self, false_or, or_false, reduceCtorEq, Bool.false_eq_true, and_false, false_and, eq_self, true_and, and_true, zero_ne, hs0]
  rw [e00]
  clear e00
  generalize hw0 : setI w 238 0 0 = w0 at *
  have hq1 := X0.1
  have hv0 := X0.2.1
  have hm := X0.1.1
  have hh := X0.1.2.1
  have h3 := X0.1.2.2
  have hge := hh.ge
  have h16 := ri.1.1
  have e0 := m_isThere hm h3 hv0 ri.1 x1 x2
  have e9 := m_isThere hm h3 hv0 ri.1 y1 y2
  unfold A39
  by_cases q1 : 0 ≤ i ∧ i < s.1 289
  · rw [if_pos q1] at e0
    by_cases q2 : 0 ≤ j ∧ j < s.1 289
    · rw [if_pos q2] at e9
      by_cases q3 : i = j
      · rw [if_neg (fun z => z.2.2 q3)]
        refine ⟨_, ?_, hX.no hw0⟩
        simp (disch := omega) only [p299_0, p299_1, p299_2, p299_5, p299_6, p299_7, p299_10, p299_13, p299_14, p299_15, p299_18, p299_21, p299_22, p299_23, p299_26, p299_27, p299_30, p299_31, p299_34, p299_35, p299_36, p299_39, p299_40, p299_41, p299_44, p299_45, p299_48, p299_49, p299_50, p299_53, p299_54, p299_57, p299_58, p299_59, p299_62, p299_63, p299_66, p299_67, p299_68, p299_71, p299_72, p299_75, p299_76, p299_77, p299_80, p299_81, p299_84, p213_0, p213_1, p213_2, p213_5, p213_6, p213_7, p213_10, p213_11, p176_0, p176_1, p176_2, p176_5, p176_6, p176_7, p176_10, p176_11, p297_0, p297_1, p297_2, p297_5, p297_6, p297_7, p298_0, p298_1, p298_2, p298_5, p298_6, p298_7, jwd_c, jwd_0, Nat.reduceLeDiff, Nat.reduceEqDiff, Nat.reduceAdd, Nat.reduceSub, Nat.reduceMul, Int.reduceAdd, Int.reduceSub, Int.reduceMul, Int.reduceNeg, Int.reduceEq, Int.reduceLT, Int.reduceLE, jq_ldi_i, jq_ldl_l, jq_lda_a, jq_inc_i, jq_gs_t, jq_gsb_t, jq_gb_t, jq_gr_2, jq_gr_4, jq_gw_2, jq_s_t, jq_b_t, jg_c, jg_n, js_c, js_n, jrm_c, jrm_n, j2_i, j2_l, j2_a, jq_c_i, jq_c_l, jq_c_0, jq_c_n, jwd_le, jw_c0, mS_I, mS_R, mS_J, mN_I, mN_R, mN_J, mR_I, mI_R, mJ_I, mJ_R, mI_J, mR_J, ↓reduceIte, decide_true, or_true, true_or, and_self, false_or, or_false, reduceCtorEq, Bool.false_eq_true, and_false, false_and, eq_self, true_and, and_true, zero_ne, ↓br_lt_t, ↓br_lt_f, ↓br_eq_t, ↓br_eq_f, ↓br_lz_t, ↓br_lz_f, ↓br_ez_t, ↓br_ez_f, ↓br_gz_t, ↓br_gz_f, jw_id, jin_t, jix_t, ↓ite_t, ↓ite_f, MO.s0 hm, MO.s1 hm, MO.s2 hm, MO.s3 hm, MO.s4 hm, MO.s5 hm, MO.s6 hm, MO.s7 hm, MO.s8 hm, MO.s9 hm, MO.s10 hm, MO.s11 hm, MO.s12 hm, MO.s13 hm, MO.r1 hm, MO.r2 hm, MO.r3 hm, MO.r4 hm, MO.r5 hm, MO.r6 hm, MO.r7 hm, MO.r8 hm, MO.r9 hm, MO.r10 hm, MO.r11 hm, MO.r12 hm, MO.r13 hm, e0, e9]
      · by_cases q4 : i = 0
        · rw [if_neg (by omega)]
          refine ⟨_, ?_, hX.no hw0⟩
          simp (disch := omega) only [p299_0, p299_1, p299_2, p299_5, p299_6, p299_7, p299_10, p299_13, p299_14, p299_15, p299_18, p299_21, p299_22, p299_23, p299_26, p299_27, p299_30, p299_31, p299_34, p299_35, p299_36, p299_39, p299_40, p299_41, p299_44, p299_45, p299_48, p299_49, p299_50, p299_53, p299_54, p299_57, p299_58, p299_59, p299_62, p299_63, p299_66, p299_67, p299_68, p299_71, p299_72, p299_75, p299_76, p299_77, p299_80, p299_81, p299_84, p213_0, p213_1, p213_2, p213_5, p213_6, p213_7, p213_10, p213_11, p176_0, p176_1, p176_2, p176_5, p176_6, p176_7, p176_10, p176_11, p297_0, p297_1, p297_2, p297_5, p297_6, p297_7, p298_0, p298_1, p298_2, p298_5, p298_6, p298_7, jwd_c, jwd_0, Nat.reduceLeDiff, Nat.reduceEqDiff, Nat.reduceAdd, Nat.reduceSub, Nat.reduceMul, Int.reduceAdd, Int.reduceSub, Int.reduceMul, Int.reduceNeg, Int.reduceEq, Int.reduceLT, Int.reduceLE, jq_ldi_i, jq_ldl_l, jq_lda_a, jq_inc_i, jq_gs_t, jq_gsb_t, jq_gb_t, jq_gr_2, jq_gr_4, jq_gw_2, jq_s_t, jq_b_t, jg_c, jg_n, js_c, js_n, jrm_c, jrm_n, j2_i, j2_l, j2_a, jq_c_i, jq_c_l, jq_c_0, jq_c_n, jwd_le, jw_c0, mS_I, mS_R, mS_J, mN_I, mN_R, mN_J, mR_I, mI_R, mJ_I, mJ_R, mI_J, mR_J, ↓reduceIte, decide_true, or_true, true_or, and_self, false_or, or_false, reduceCtorEq, Bool.false_eq_true, and_false, false_and, eq_self, true_and, and_true, zero_ne, ↓br_lt_t, ↓br_lt_f, ↓br_eq_t, ↓br_eq_f, ↓br_lz_t, ↓br_lz_f, ↓br_ez_t, ↓br_ez_f, ↓br_gz_t, ↓br_gz_f, jw_id, jin_t, jix_t, ↓ite_t, ↓ite_f, MO.s0 hm, MO.s1 hm, MO.s2 hm, MO.s3 hm, MO.s4 hm, MO.s5 hm, MO.s6 hm, MO.s7 hm, MO.s8 hm, MO.s9 hm, MO.s10 hm, MO.s11 hm, MO.s12 hm, MO.s13 hm, MO.r1 hm, MO.r2 hm, MO.r3 hm, MO.r4 hm, MO.r5 hm, MO.r6 hm, MO.r7 hm, MO.r8 hm, MO.r9 hm, MO.r10 hm, MO.r11 hm, MO.r12 hm, MO.r13 hm, e0, e9]
        · by_cases q5 : j = 0
          · rw [if_neg (by omega)]
            refine ⟨_, ?_, hX.no hw0⟩
            simp (disch := omega) only [p299_0, p299_1, p299_2, p299_5, p299_6, p299_7, p299_10, p299_13, p299_14, p299_15, p299_18, p299_21, p299_22, p299_23, p299_26, p299_27, p299_30, p299_31, p299_34, p299_35, p299_36, p299_39, p299_40, p299_41, p299_44, p299_45, p299_48, p299_49, p299_50, p299_53, p299_54, p299_57, p299_58, p299_59, p299_62, p299_63, p299_66, p299_67, p299_68, p299_71, p299_72, p299_75, p299_76, p299_77, p299_80, p299_81, p299_84, p213_0, p213_1, p213_2, p213_5, p213_6, p213_7, p213_10, p213_11, p176_0, p176_1, p176_2, p176_5, p176_6, p176_7, p176_10, p176_11, p297_0, p297_1, p297_2, p297_5, p297_6, p297_7, p298_0, p298_1, p298_2, p298_5, p298_6, p298_7, jwd_c, jwd_0, Nat.reduceLeDiff, Nat.reduceEqDiff, Nat.reduceAdd, Nat.reduceSub, Nat.reduceMul, Int.reduceAdd, Int.reduceSub, Int.reduceMul, Int.reduceNeg, Int.reduceEq, Int.reduceLT, Int.reduceLE, jq_ldi_i, jq_ldl_l, jq_lda_a, jq_inc_i, jq_gs_t, jq_gsb_t, jq_gb_t, jq_gr_2, jq_gr_4, jq_gw_2, jq_s_t, jq_b_t, jg_c, jg_n, js_c, js_n, jrm_c, jrm_n, j2_i, j2_l, j2_a, jq_c_i, jq_c_l, jq_c_0, jq_c_n, jwd_le, jw_c0, mS_I, mS_R, mS_J, mN_I, mN_R, mN_J, mR_I, mI_R, mJ_I, mJ_R, mI_J, mR_J, ↓reduceIte, decide_true, or_true, true_or, and_self, false_or, or_false, reduceCtorEq, Bool.false_eq_true, and_false, false_and, eq_self, true_and, and_true, zero_ne, ↓br_lt_t, ↓br_lt_f, ↓br_eq_t, ↓br_eq_f, ↓br_lz_t, ↓br_lz_f, ↓br_ez_t, ↓br_ez_f, ↓br_gz_t, ↓br_gz_f, jw_id, jin_t, jix_t, ↓ite_t, ↓ite_f, MO.s0 hm, MO.s1 hm, MO.s2 hm, MO.s3 hm, MO.s4 hm, MO.s5 hm, MO.s6 hm, MO.s7 hm, MO.s8 hm, MO.s9 hm, MO.s10 hm, MO.s11 hm, MO.s12 hm, MO.s13 hm, MO.r1 hm, MO.r2 hm, MO.r3 hm, MO.r4 hm, MO.r5 hm, MO.r6 hm, MO.r7 hm, MO.r8 hm, MO.r9 hm, MO.r10 hm, MO.r11 hm, MO.r12 hm, MO.r13 hm, e0, e9]
          · rw [if_pos (by omega)]
            obtain ⟨w1, e1, X1, f1, r1, k1⟩ := X0.keep
            have hm1 := X1.1.1
            have hv1 : mI w1 241 = s.1 := X1.2.1
            have a1 := m_swapsIn hm1 hv1 (p := 204) (i := i) (j := j) (by omega) (by omega) (by omega) (by omega) (by omega) (by omega)
            have a2 := m_swapsIn (w := setA w1 241 (gSw1 s.1 204 i j)) (hm1.frR rfl rfl) (mI_A _ _ _) (p := 236) (i := i) (j := j) (by omega) (by omega) (by omega) (by omega) (by omega) (by omega)
            rw [setA_A] at a2
            have a3 := m_swapsIn (w := setA w1 241 (gSw1 (gSw1 s.1 204 i j) 236 i j)) (hm1.frR rfl rfl) (mI_A _ _ _) (p := 252) (i := i) (j := j) (by omega) (by omega) (by omega) (by omega) (by omega) (by omega)
            rw [setA_A] at a3
            have a4 := m_swapsIn (w := setA w1 241 (gSw1 (gSw1 (gSw1 s.1 204 i j) 236 i j) 252 i j)) (hm1.frR rfl rfl) (mI_A _ _ _) (p := 268) (i := i) (j := j) (by omega) (by omega) (by omega) (by omega) (by omega) (by omega)
            rw [setA_A, swp_eq (by omega) (by omega) (by omega) (by omega) q3] at a4
            have X2 := X1.row (f := gSwp s.1 i j)
            refine ⟨_, ?_, X2.fin hw0 (f1 (Fr.A (P := fun b => b = 241) rfl) (fun b hb => by omega)) (by rw [← hw0] at r1; exact r1) (fun k k2 k3 => by rw [mI_nA (by omega)]; exact k1 k k2 k3)⟩
            simp (disch := omega) only [p299_0, p299_1, p299_2, p299_5, p299_6, p299_7, p299_10, p299_13, p299_14, p299_15, p299_18, p299_21, p299_22, p299_23, p299_26, p299_27, p299_30, p299_31, p299_34, p299_35, p299_36, p299_39, p299_40, p299_41, p299_44, p299_45, p299_48, p299_49, p299_50, p299_53, p299_54, p299_57, p299_58, p299_59, p299_62, p299_63, p299_66, p299_67, p299_68, p299_71, p299_72, p299_75, p299_76, p299_77, p299_80, p299_81, p299_84, p213_0, p213_1, p213_2, p213_5, p213_6, p213_7, p213_10, p213_11, p176_0, p176_1, p176_2, p176_5, p176_6, p176_7, p176_10, p176_11, p297_0, p297_1, p297_2, p297_5, p297_6, p297_7, p298_0, p298_1, p298_2, p298_5, p298_6, p298_7, jwd_c, jwd_0, Nat.reduceLeDiff, Nat.reduceEqDiff, Nat.reduceAdd, Nat.reduceSub, Nat.reduceMul, Int.reduceAdd, Int.reduceSub, Int.reduceMul, Int.reduceNeg, Int.reduceEq, Int.reduceLT, Int.reduceLE, jq_ldi_i, jq_ldl_l, jq_lda_a, jq_inc_i, jq_gs_t, jq_gsb_t, jq_gb_t, jq_gr_2, jq_gr_4, jq_gw_2, jq_s_t, jq_b_t, jg_c, jg_n, js_c, js_n, jrm_c, jrm_n, j2_i, j2_l, j2_a, jq_c_i, jq_c_l, jq_c_0, jq_c_n, jwd_le, jw_c0, mS_I, mS_R, mS_J, mN_I, mN_R, mN_J, mR_I, mI_R, mJ_I, mJ_R, mI_J, mR_J, ↓reduceIte, decide_true, or_true, true_or, and_self, false_or, or_false, reduceCtorEq, Bool.false_eq_true, and_false, false_and, eq_self, true_and, and_true, zero_ne, ↓br_lt_t, ↓br_lt_f, ↓br_eq_t, ↓br_eq_f, ↓br_lz_t, ↓br_lz_f, ↓br_ez_t, ↓br_ez_f, ↓br_gz_t, ↓br_gz_f, jw_id, jin_t, jix_t, ↓ite_t, ↓ite_f, MO.s0 hm, MO.s1 hm, MO.s2 hm, MO.s3 hm, MO.s4 hm, MO.s5 hm, MO.s6 hm, MO.s7 hm, MO.s8 hm, MO.s9 hm, MO.s10 hm, MO.s11 hm, MO.s12 hm, MO.s13 hm, MO.r1 hm, MO.r2 hm, MO.r3 hm, MO.r4 hm, MO.r5 hm, MO.r6 hm, MO.r7 hm, MO.r8 hm, MO.r9 hm, MO.r10 hm, MO.r11 hm, MO.r12 hm, MO.r13 hm, e0, e9, e1, MO.s0 hm1, mS_A, a1, a2, a3, a4]
    · rw [if_neg q2] at e9
      rw [if_neg (by omega)]
      refine ⟨_, ?_, hX.no hw0⟩
      simp (disch := omega) only [p299_0, p299_1, p299_2, p299_5, p299_6, p299_7, p299_10, p299_13, p299_14, p299_15, p299_18, p299_21, p299_22, p299_23, p299_26, p299_27, p299_30, p299_31, p299_34, p299_35, p299_36, p299_39, p299_40, p299_41, p299_44, p299_45, p299_48, p299_49, p299_50, p299_53, p299_54, p299_57, p299_58, p299_59, p299_62, p299_63, p299_66, p299_67, p299_68, p299_71, p299_72, p299_75, p299_76, p299_77, p299_80, p299_81, p299_84, p213_0, p213_1, p213_2, p213_5, p213_6, p213_7, p213_10, p213_11, p176_0, p176_1, p176_2, p176_5, p176_6, p176_7, p176_10, p176_11, p297_0, p297_1, p297_2, p297_5, p297_6, p297_7, p298_0, p298_1, p298_2, p298_5, p298_6, p298_7, jwd_c, jwd_0, Nat.reduceLeDiff, Nat.reduceEqDiff, Nat.reduceAdd, Nat.reduceSub, Nat.reduceMul, Int.reduceAdd, Int.reduceSub, Int.reduceMul, Int.reduceNeg, Int.reduceEq, Int.reduceLT, Int.reduceLE, jq_ldi_i, jq_ldl_l, jq_lda_a, jq_inc_i, jq_gs_t, jq_gsb_t, jq_gb_t, jq_gr_2, jq_gr_4, jq_gw_2, jq_s_t, jq_b_t, jg_c, jg_n, js_c, js_n, jrm_c, jrm_n, j2_i, j2_l, j2_a, jq_c_i, jq_c_l, jq_c_0, jq_c_n, jwd_le, jw_c0, mS_I, mS_R, mS_J, mN_I, mN_R, mN_J, mR_I, mI_R, mJ_I, mJ_R, mI_J, mR_J, ↓reduceIte, decide_true, or_true, true_or, and_self, false_or, or_false, reduceCtorEq, Bool.false_eq_true, and_false, false_and, eq_self, true_and, and_true, zero_ne, ↓br_lt_t, ↓br_lt_f, ↓br_eq_t, ↓br_eq_f, ↓br_lz_t, ↓br_lz_f, ↓br_ez_t, ↓br_ez_f, ↓br_gz_t, ↓br_gz_f, jw_id, jin_t, jix_t, ↓ite_t, ↓ite_f, MO.s0 hm, MO.s1 hm, MO.s2 hm, MO.s3 hm, MO.s4 hm, MO.s5 hm, MO.s6 hm, MO.s7 hm, MO.s8 hm, MO.s9 hm, MO.s10 hm, MO.s11 hm, MO.s12 hm, MO.s13 hm, MO.r1 hm, MO.r2 hm, MO.r3 hm, MO.r4 hm, MO.r5 hm, MO.r6 hm, MO.r7 hm, MO.r8 hm, MO.r9 hm, MO.r10 hm, MO.r11 hm, MO.r12 hm, MO.r13 hm, e0, e9]
  · rw [if_neg q1] at e0
    rw [if_neg (by omega)]
    refine ⟨_, ?_, hX.no hw0⟩
    simp (disch := omega) only [p299_0, p299_1, p299_2, p299_5, p299_6, p299_7, p299_10, p299_13, p299_14, p299_15, p299_18, p299_21, p299_22, p299_23, p299_26, p299_27, p299_30, p299_31, p299_34, p299_35, p299_36, p299_39, p299_40, p299_41, p299_44, p299_45, p299_48, p299_49, p299_50, p299_53, p299_54, p299_57, p299_58, p299_59, p299_62, p299_63, p299_66, p299_67, p299_68, p299_71, p299_72, p299_75, p299_76, p299_77, p299_80, p299_81, p299_84, p213_0, p213_1, p213_2, p213_5, p213_6, p213_7, p213_10, p213_11, p176_0, p176_1, p176_2, p176_5, p176_6, p176_7, p176_10, p176_11, p297_0, p297_1, p297_2, p297_5, p297_6, p297_7, p298_0, p298_1, p298_2, p298_5, p298_6, p298_7, jwd_c, jwd_0, Nat.reduceLeDiff, Nat.reduceEqDiff, Nat.reduceAdd, Nat.reduceSub, Nat.reduceMul, Int.reduceAdd, Int.reduceSub, Int.reduceMul, Int.reduceNeg, Int.reduceEq, Int.reduceLT, Int.reduceLE, jq_ldi_i, jq_ldl_l, jq_lda_a, jq_inc_i, jq_gs_t, jq_gsb_t, jq_gb_t, jq_gr_2, jq_gr_4, jq_gw_2, jq_s_t, jq_b_t, jg_c, jg_n, js_c, js_n, jrm_c, jrm_n, j2_i, j2_l, j2_a, jq_c_i, jq_c_l, jq_c_0, jq_c_n, jwd_le, jw_c0, mS_I, mS_R, mS_J, mN_I, mN_R, mN_J, mR_I, mI_R, mJ_I, mJ_R, mI_J, mR_J, ↓reduceIte, decide_true, or_true, true_or, and_self, false_or, or_false, reduceCtorEq, Bool.false_eq_true, and_false, false_and, eq_self, true_and, and_true, zero_ne, ↓br_lt_t, ↓br_lt_f, ↓br_eq_t, ↓br_eq_f, ↓br_lz_t, ↓br_lz_f, ↓br_ez_t, ↓br_ez_f, ↓br_gz_t, ↓br_gz_f, jw_id, jin_t, jix_t, ↓ite_t, ↓ite_f, MO.s0 hm, MO.s1 hm, MO.s2 hm, MO.s3 hm, MO.s4 hm, MO.s5 hm, MO.s6 hm, MO.s7 hm, MO.s8 hm, MO.s9 hm, MO.s10 hm, MO.s11 hm, MO.s12 hm, MO.s13 hm, MO.r1 hm, MO.r2 hm, MO.r3 hm, MO.r4 hm, MO.r5 hm, MO.r6 hm, MO.r7 hm, MO.r8 hm, MO.r9 hm, MO.r10 hm, MO.r11 hm, MO.r12 hm, MO.r13 hm, e0]
theorem mdance_lp (hk : HOK H) {L : Int} (l1 : 0 ≤ L) (l2 : L ≤ 12) (s1 : ∀ k, k < 12 → 0 ≤ S k ∧ S k ≤ 3) {t : Int} (t2 : t ≤ 100) : ∀ (n : Nat) (i : Int) (x : gX) (z : gZ) (w : jmW) (B : Int), MF w 241 h H L S 0 x → exq x z → z.2.1 = 0 → ZB H B (-1) z → B + n < 2147480000 → 0 ≤ i → i + n = t → ∃ x2 u, rn 294 (60, [(0, jvr 238), (1, .inl t), (2, .inl i)], [], w) = rn 294 (80, [(0, jvr 238), (1, .inl t), (2, .inl t)], [], u) ∧ MF u 241 h H L S 0 x2 ∧ exq x2 (gFr H L S (-1) n z) ∧ Km 241 w u := by
  intro n
  induction n with
  | zero =>
    intro i x z w B m e hs hz hB i1 i2
    have hm := m.1
    have e0 : i = t := by omega
    subst e0
    refine ⟨x, w, ?_, m, e, Km.rf _ _⟩
    rw [p294_60]
    simp (disch := omega) only [p294_0, p294_1, p294_2, p294_5, p294_6, p294_9n, p294_9s, p294_12, p294_13, p294_14, p294_17, p294_18, p294_19, p294_20, p294_22, p294_25, p294_28, p294_29, p294_30, p294_33, p294_34, p294_35, p294_38, p294_41, p294_44, p294_45, p294_46, p294_49, p294_50, p294_51, p294_54, p294_55, p294_58, p294_59, p294_61, p294_62, p294_65, p294_66, p294_67, p294_70, p294_71, p294_74, p294_77, p294_81, p294_82, p294_85, p294_88, p294_89, p294_92, jwd_c, jwd_0, Nat.reduceLeDiff, Nat.reduceEqDiff, Nat.reduceAdd, Nat.reduceSub, Nat.reduceMul, Int.reduceAdd, Int.reduceSub, Int.reduceMul, Int.reduceNeg, Int.reduceEq, Int.reduceLT, Int.reduceLE, jq_ldi_i, jq_ldl_l, jq_lda_a, jq_inc_i, jq_gs_t, jq_gsb_t, jq_gb_t, jq_gr_2, jq_gr_4, jq_gw_2, jq_s_t, jq_b_t, jg_c, jg_n, js_c, js_n, jrm_c, jrm_n, j2_i, j2_l, j2_a, jq_c_i, jq_c_l, jq_c_0, jq_c_n, jwd_le, jw_c0, mS_I, mS_R, mS_J, mN_I, mN_R, mN_J, mR_I, mI_R, mJ_I, mJ_R, mI_J, mR_J, ↓reduceIte, decide_true, or_true, true_or, and_self, false_or, or_false, reduceCtorEq, Bool.false_eq_true, and_false, false_and, eq_self, true_and, and_true, zero_ne, ↓br_lt_t, ↓br_lt_f, ↓br_eq_t, ↓br_eq_f, ↓br_lz_t, ↓br_lz_f, ↓br_ez_t, ↓br_ez_f, ↓br_gz_t, ↓br_gz_f, jw_id, jin_t, jix_t]
  | succ n ih =>
    intro i x z w B m e hs hz hB i1 i2
    have hm := m.1
    obtain ⟨w1, e1, m1, -, k1, -⟩ := mF_beat m (Or.inl rfl) hk (by omega) (by omega) l1 l2 s1 (by rw [e.1]; exact hz.1) (by omega) (st := 0) (Or.inl rfl)
    have ex1 : exq (gBeat H L S 0 0 x) (gF1 H L S (-1) z) := e.step rfl (Or.inr (by rw [hs]; rfl))
    obtain ⟨x2, u, e2, m2, ex2, k2⟩ := ih (i + 1) _ _ w1 (B + 1) m1 ex1 (f1_s hs) (f1_zb hk l2 s1 hz) (by omega) (by omega) (by omega)
    refine ⟨x2, u, ?_, m2, ex2, k1.tr k2⟩
    rw [← e2, p294_60]
    simp (disch := omega) only [p294_0, p294_1, p294_2, p294_5, p294_6, p294_9n, p294_9s, p294_12, p294_13, p294_14, p294_17, p294_18, p294_19, p294_20, p294_22, p294_25, p294_28, p294_29, p294_30, p294_33, p294_34, p294_35, p294_38, p294_41, p294_44, p294_45, p294_46, p294_49, p294_50, p294_51, p294_54, p294_55, p294_58, p294_59, p294_61, p294_62, p294_65, p294_66, p294_67, p294_70, p294_71, p294_74, p294_77, p294_81, p294_82, p294_85, p294_88, p294_89, p294_92, jwd_c, jwd_0, Nat.reduceLeDiff, Nat.reduceEqDiff, Nat.reduceAdd, Nat.reduceSub, Nat.reduceMul, Int.reduceAdd, Int.reduceSub, Int.reduceMul, Int.reduceNeg, Int.reduceEq, Int.reduceLT, Int.reduceLE, jq_ldi_i, jq_ldl_l, jq_lda_a, jq_inc_i, jq_gs_t, jq_gsb_t, jq_gb_t, jq_gr_2, jq_gr_4, jq_gw_2, jq_s_t, jq_b_t, jg_c, jg_n, js_c, js_n, jrm_c, jrm_n, j2_i, j2_l, j2_a, jq_c_i, jq_c_l, jq_c_0, jq_c_n, jwd_le, jw_c0, mS_I, mS_R, mS_J, mN_I, mN_R, mN_J, mR_I, mI_R, mJ_I, mJ_R, mI_J, mR_J, ↓reduceIte, decide_true, or_true, true_or, and_self, false_or, or_false, reduceCtorEq, Bool.false_eq_true, and_false, false_and, eq_self, true_and, and_true, zero_ne, ↓br_lt_t, ↓br_lt_f, ↓br_eq_t, ↓br_eq_f, ↓br_lz_t, ↓br_lz_f, ↓br_ez_t, ↓br_ez_f, ↓br_gz_t, ↓br_gz_f, jw_id, jin_t, jix_t, MO.s0 hm, MO.s1 hm, MO.s2 hm, MO.s3 hm, MO.s4 hm, MO.s5 hm, MO.s6 hm, MO.s7 hm, MO.s8 hm, MO.s9 hm, MO.s10 hm, MO.s11 hm, MO.s12 hm, MO.s13 hm, MO.r1 hm, MO.r2 hm, MO.r3 hm, MO.r4 hm, MO.r5 hm, MO.r6 hm, MO.r7 hm, MO.r8 hm, MO.r9 hm, MO.r10 hm, MO.r11 hm, MO.r12 hm, MO.r13 hm, e1]
theorem d_dance (hX : mX w h H s) (b : fB H s.1 S s.1 g B) (hS : S = gS1 H (mI w 247)) (hg : g = gG0 (mI w 248)) {n : Int} (x1 : -2147483648 ≤ n) (x2 : n < 2147483648) : ∃ u, rn 294 (0, [(0, jvr 238), (1, .inl n)], [], w) = some (some (.inl (A37 H S g s n).1), u) ∧ qN w u h H (A37 H S g s n).2.2 (A37 H S g s n).2.1 := by
  have hs0 := hX.1.1.s0
  have X0 := hX.z
  have e00 : rn 294 (0, [(0, jvr 238), (1, .inl n)], [], w) = rn 294 (5, [(0, jvr 238), (1, .inl n)], [], setI w 238 0 0) := by
    simp only [p294_0, p294_1, p294_2, jwd_c, jwd_0, Nat.reduceLeDiff, Nat.reduceEqDiff, Nat.reduceAdd, Nat.reduceSub, Nat.reduceMul, Int.reduceAdd, Int.reduceSub, Int.reduceMul, Int.reduceNeg, Int.reduceEq, Int.reduceLT, Int.reduceLE, jq_ldi_i, jq_ldl_l, jq_lda_a, jq_inc_i, jq_gs_t, jq_gsb_t, jq_gb_t, jq_gr_2, jq_gr_4, jq_gw_2, jq_s_t, jq_b_t, jg_c, jg_n, js_c, js_n, jrm_c, jrm_n, j2_i, j2_l, j2_a, jq_c_i, jq_c_l, jq_c_0, jq_c_n, jwd_le, jw_c0, mS_I, mS_R, mS_J, mN_I, mN_R, mN_J, mR_I, mI_R, mJ_I, mJ_R, mI_J, mR_J, ↓reduceIte, decide_true, or_true, true_or, and_self, false_or, or_false, reduceCtorEq, Bool.false_eq_true, and_false, false_and, eq_self, true_and, and_true, zero_ne, hs0]
  rw [e00]
  clear e00
  generalize hw0 : setI w 238 0 0 = w0 at *
  have hq1 := X0.1
  have hv0 := X0.2.1
  have hm := X0.1.1
  have hh := X0.1.2.1
  have h3 := X0.1.2.2
  have hge := hh.ge
  have k6 := b.1.2.1
  have ri := b.2.2.1
  have h16 := ri.1.1
  have r97 := ri.1.2.2.2.2.2.2.2.2.2.2.2.2.2.2.2.2
  have ov := over_b s.1
  have e2 := m_in (w := w0) (x := n) (a := 1) (b := 20) x1 x2 (by omega) (by omega) (by omega) (by omega)
  have e3 := m_over (w := w0) (a := 241) (r := s.1) hm.s3 hv0 (by omega) (by omega)
  unfold A37
  by_cases q : 1 ≤ n ∧ n ≤ 20
  · rw [if_pos q] at e2 ⊢
    by_cases q3 : gOver s.1 = 0
    · rw [if_pos q3]
      obtain ⟨w1, e1, X1, f1, r1, k1⟩ := X0.keep
      have hm1 := X1.1.1
      have f10 := f1 (Fr.rf (fun _ => False) w1) (fun b hb => hb.elim)
      obtain ⟨w1', e1', X1', ff, rr, kk⟩ := m_keeps X0
      have ew : w1' = w1 := by
        rw [e1] at e1'
        exact (Prod.mk.inj (Option.some.inj e1')).2.symm
      rw [ew] at ff
      obtain ⟨w2, e4, m2, km2⟩ := mF_plain (w := w1) (a := 241) X1.1 (Or.inl rfl) (-1)
      have i7 : mI w1 247 = mI w 247 := by rw [ff.Iq (b := 247) (by omega), ← hw0, mI_nb (by omega)]
      have i8 : mI w1 248 = mI w 248 := by rw [ff.Iq (b := 248) (by omega), ← hw0, mI_nb (by omega)]
      have v1 : mI w1 241 = s.1 := X1.2.1
      rw [i7, i8, ← hS, ← hg, v1] at m2
      obtain ⟨x3, w3, e5, m3, ex3, km3⟩ := mdance_lp b.1 (by omega) (by omega) b.s1 (t := n) (by omega) n.toNat 0 _ (gZ0 s.1 g) w2 B m2 ⟨rfl, rfl, rfl, rfl⟩ rfl (zb0 b.i b.2.2.2.1.1 (Or.inl rfl)) (by have := b.2.2.2.1; omega) (by omega) (by omega)
      have eD : gFr H (H 0 6) S (-1) n.toNat (gZ0 s.1 g) = gDn H S g s.1 n := rfl
      rw [eD] at ex3
      generalize gDn H S g s.1 n = z at *
      have km := km2.tr km3
      have m4 : mI w3 241 = z.1.1 := by rw [m3.2.2.2.1, ex3.1]
      have hm3 := m3.1
      have X3 : mX w3 h H (gRw (gPs s) z.1.1) := by
        obtain ⟨a1, a2, a3, a4⟩ := X1
        exact ⟨m3.mq, m4, by rw [km.2.2 22 (by omega), km.1.Iq (b := 243) (by omega)]; exact a3, by rw [km.2.2 23 (by omega), km.1.Iq (b := 244) (by omega)]; exact a4⟩
      refine ⟨_, ?_, X3.fin hw0 (f1 km.1 (fun b hb => by omega)) (by rw [km.2.1]; rw [← hw0] at r1; exact r1) (fun k k2 k3 => by rw [km.2.2 k (by omega)]; exact k1 k k2 k3)⟩
      have st : rn 294 (5, [(0, jvr 238), (1, .inl n)], [], w0) = rn 294 (60, [(0, jvr 238), (1, .inl n), (2, .inl 0)], [], w2) := by
        simp (disch := omega) only [p294_0, p294_1, p294_2, p294_5, p294_6, p294_9n, p294_9s, p294_12, p294_13, p294_14, p294_17, p294_18, p294_19, p294_20, p294_22, p294_25, p294_28, p294_29, p294_30, p294_33, p294_34, p294_35, p294_38, p294_41, p294_44, p294_45, p294_46, p294_49, p294_50, p294_51, p294_54, p294_55, p294_58, p294_59, p294_61, p294_62, p294_65, p294_66, p294_67, p294_70, p294_71, p294_74, p294_77, p294_81, p294_82, p294_85, p294_88, p294_89, p294_92, jwd_c, jwd_0, Nat.reduceLeDiff, Nat.reduceEqDiff, Nat.reduceAdd, Nat.reduceSub, Nat.reduceMul, Int.reduceAdd, Int.reduceSub, Int.reduceMul, Int.reduceNeg, Int.reduceEq, Int.reduceLT, Int.reduceLE, jq_ldi_i, jq_ldl_l, jq_lda_a, jq_inc_i, jq_gs_t, jq_gsb_t, jq_gb_t, jq_gr_2, jq_gr_4, jq_gw_2, jq_s_t, jq_b_t, jg_c, jg_n, js_c, js_n, jrm_c, jrm_n, j2_i, j2_l, j2_a, jq_c_i, jq_c_l, jq_c_0, jq_c_n, jwd_le, jw_c0, mS_I, mS_R, mS_J, mN_I, mN_R, mN_J, mR_I, mI_R, mJ_I, mJ_R, mI_J, mR_J, ↓reduceIte, decide_true, or_true, true_or, and_self, false_or, or_false, reduceCtorEq, Bool.false_eq_true, and_false, false_and, eq_self, true_and, and_true, zero_ne, ↓br_lt_t, ↓br_lt_f, ↓br_eq_t, ↓br_eq_f, ↓br_lz_t, ↓br_lz_f, ↓br_ez_t, ↓br_ez_f, ↓br_gz_t, ↓br_gz_f, jw_id, jin_t, jix_t, ↓ite_t, ↓ite_f, MO.s0 hm, MO.s1 hm, MO.s2 hm, MO.s3 hm, MO.s4 hm, MO.s5 hm, MO.s6 hm, MO.s7 hm, MO.s8 hm, MO.s9 hm, MO.s10 hm, MO.s11 hm, MO.s12 hm, MO.s13 hm, MO.r1 hm, MO.r2 hm, MO.r3 hm, MO.r4 hm, MO.r5 hm, MO.r6 hm, MO.r7 hm, MO.r8 hm, MO.r9 hm, MO.r10 hm, MO.r11 hm, MO.r12 hm, MO.r13 hm, h3, e2, e3, e1, MO.s0 hm1, e4]
      rw [st, e5, p294_80]
      simp (disch := omega) only [p294_0, p294_1, p294_2, p294_5, p294_6, p294_9n, p294_9s, p294_12, p294_13, p294_14, p294_17, p294_18, p294_19, p294_20, p294_22, p294_25, p294_28, p294_29, p294_30, p294_33, p294_34, p294_35, p294_38, p294_41, p294_44, p294_45, p294_46, p294_49, p294_50, p294_51, p294_54, p294_55, p294_58, p294_59, p294_61, p294_62, p294_65, p294_66, p294_67, p294_70, p294_71, p294_74, p294_77, p294_81, p294_82, p294_85, p294_88, p294_89, p294_92, p213_0, p213_1, p213_2, p213_5, p213_6, p213_7, p213_10, p213_11, p176_0, p176_1, p176_2, p176_5, p176_6, p176_7, p176_10, p176_11, p297_0, p297_1, p297_2, p297_5, p297_6, p297_7, p298_0, p298_1, p298_2, p298_5, p298_6, p298_7, jwd_c, jwd_0, Nat.reduceLeDiff, Nat.reduceEqDiff, Nat.reduceAdd, Nat.reduceSub, Nat.reduceMul, Int.reduceAdd, Int.reduceSub, Int.reduceMul, Int.reduceNeg, Int.reduceEq, Int.reduceLT, Int.reduceLE, jq_ldi_i, jq_ldl_l, jq_lda_a, jq_inc_i, jq_gs_t, jq_gsb_t, jq_gb_t, jq_gr_2, jq_gr_4, jq_gw_2, jq_s_t, jq_b_t, jg_c, jg_n, js_c, js_n, jrm_c, jrm_n, j2_i, j2_l, j2_a, jq_c_i, jq_c_l, jq_c_0, jq_c_n, jwd_le, jw_c0, mS_I, mS_R, mS_J, mN_I, mN_R, mN_J, mR_I, mI_R, mJ_I, mJ_R, mI_J, mR_J, ↓reduceIte, decide_true, or_true, true_or, and_self, false_or, or_false, reduceCtorEq, Bool.false_eq_true, and_false, false_and, eq_self, true_and, and_true, zero_ne, ↓br_lt_t, ↓br_lt_f, ↓br_eq_t, ↓br_eq_f, ↓br_lz_t, ↓br_lz_f, ↓br_ez_t, ↓br_ez_f, ↓br_gz_t, ↓br_gz_f, jw_id, jin_t, jix_t, ↓ite_t, ↓ite_f, MO.s0 hm3, MO.r3 hm3, MO.s3 hm3, m4, Int.reduceToNat]
    · rw [if_neg q3]
      refine ⟨_, ?_, hX.no hw0⟩
      simp (disch := omega) only [p294_0, p294_1, p294_2, p294_5, p294_6, p294_9n, p294_9s, p294_12, p294_13, p294_14, p294_17, p294_18, p294_19, p294_20, p294_22, p294_25, p294_28, p294_29, p294_30, p294_33, p294_34, p294_35, p294_38, p294_41, p294_44, p294_45, p294_46, p294_49, p294_50, p294_51, p294_54, p294_55, p294_58, p294_59, p294_61, p294_62, p294_65, p294_66, p294_67, p294_70, p294_71, p294_74, p294_77, p294_81, p294_82, p294_85, p294_88, p294_89, p294_92, p213_0, p213_1, p213_2, p213_5, p213_6, p213_7, p213_10, p213_11, p176_0, p176_1, p176_2, p176_5, p176_6, p176_7, p176_10, p176_11, p297_0, p297_1, p297_2, p297_5, p297_6, p297_7, p298_0, p298_1, p298_2, p298_5, p298_6, p298_7, jwd_c, jwd_0, Nat.reduceLeDiff, Nat.reduceEqDiff, Nat.reduceAdd, Nat.reduceSub, Nat.reduceMul, Int.reduceAdd, Int.reduceSub, Int.reduceMul, Int.reduceNeg, Int.reduceEq, Int.reduceLT, Int.reduceLE, jq_ldi_i, jq_ldl_l, jq_lda_a, jq_inc_i, jq_gs_t, jq_gsb_t, jq_gb_t, jq_gr_2, jq_gr_4, jq_gw_2, jq_s_t, jq_b_t, jg_c, jg_n, js_c, js_n, jrm_c, jrm_n, j2_i, j2_l, j2_a, jq_c_i, jq_c_l, jq_c_0, jq_c_n, jwd_le, jw_c0, mS_I, mS_R, mS_J, mN_I, mN_R, mN_J, mR_I, mI_R, mJ_I, mJ_R, mI_J, mR_J, ↓reduceIte, decide_true, or_true, true_or, and_self, false_or, or_false, reduceCtorEq, Bool.false_eq_true, and_false, false_and, eq_self, true_and, and_true, zero_ne, ↓br_lt_t, ↓br_lt_f, ↓br_eq_t, ↓br_eq_f, ↓br_lz_t, ↓br_lz_f, ↓br_ez_t, ↓br_ez_f, ↓br_gz_t, ↓br_gz_f, jw_id, jin_t, jix_t, ↓ite_t, ↓ite_f, MO.s0 hm, MO.s1 hm, MO.s2 hm, MO.s3 hm, MO.s4 hm, MO.s5 hm, MO.s6 hm, MO.s7 hm, MO.s8 hm, MO.s9 hm, MO.s10 hm, MO.s11 hm, MO.s12 hm, MO.s13 hm, MO.r1 hm, MO.r2 hm, MO.r3 hm, MO.r4 hm, MO.r5 hm, MO.r6 hm, MO.r7 hm, MO.r8 hm, MO.r9 hm, MO.r10 hm, MO.r11 hm, MO.r12 hm, MO.r13 hm, h3, e2, e3]
  · rw [if_neg q] at e2 ⊢
    refine ⟨_, ?_, hX.no hw0⟩
    simp (disch := omega) only [p294_0, p294_1, p294_2, p294_5, p294_6, p294_9n, p294_9s, p294_12, p294_13, p294_14, p294_17, p294_18, p294_19, p294_20, p294_22, p294_25, p294_28, p294_29, p294_30, p294_33, p294_34, p294_35, p294_38, p294_41, p294_44, p294_45, p294_46, p294_49, p294_50, p294_51, p294_54, p294_55, p294_58, p294_59, p294_61, p294_62, p294_65, p294_66, p294_67, p294_70, p294_71, p294_74, p294_77, p294_81, p294_82, p294_85, p294_88, p294_89, p294_92, p213_0, p213_1, p213_2, p213_5, p213_6, p213_7, p213_10, p213_11, p176_0, p176_1, p176_2, p176_5, p176_6, p176_7, p176_10, p176_11, p297_0, p297_1, p297_2, p297_5, p297_6, p297_7, p298_0, p298_1, p298_2, p298_5, p298_6, p298_7, jwd_c, jwd_0, Nat.reduceLeDiff, Nat.reduceEqDiff, Nat.reduceAdd, Nat.reduceSub, Nat.reduceMul, Int.reduceAdd, Int.reduceSub, Int.reduceMul, Int.reduceNeg, Int.reduceEq, Int.reduceLT, Int.reduceLE, jq_ldi_i, jq_ldl_l, jq_lda_a, jq_inc_i, jq_gs_t, jq_gsb_t, jq_gb_t, jq_gr_2, jq_gr_4, jq_gw_2, jq_s_t, jq_b_t, jg_c, jg_n, js_c, js_n, jrm_c, jrm_n, j2_i, j2_l, j2_a, jq_c_i, jq_c_l, jq_c_0, jq_c_n, jwd_le, jw_c0, mS_I, mS_R, mS_J, mN_I, mN_R, mN_J, mR_I, mI_R, mJ_I, mJ_R, mI_J, mR_J, ↓reduceIte, decide_true, or_true, true_or, and_self, false_or, or_false, reduceCtorEq, Bool.false_eq_true, and_false, false_and, eq_self, true_and, and_true, zero_ne, ↓br_lt_t, ↓br_lt_f, ↓br_eq_t, ↓br_eq_f, ↓br_lz_t, ↓br_lz_f, ↓br_ez_t, ↓br_ez_f, ↓br_gz_t, ↓br_gz_f, jw_id, jin_t, jix_t, ↓ite_t, ↓ite_f, MO.s0 hm, MO.s1 hm, MO.s2 hm, MO.s3 hm, MO.s4 hm, MO.s5 hm, MO.s6 hm, MO.s7 hm, MO.s8 hm, MO.s9 hm, MO.s10 hm, MO.s11 hm, MO.s12 hm, MO.s13 hm, MO.r1 hm, MO.r2 hm, MO.r3 hm, MO.r4 hm, MO.r5 hm, MO.r6 hm, MO.r7 hm, MO.r8 hm, MO.r9 hm, MO.r10 hm, MO.r11 hm, MO.r12 hm, MO.r13 hm, h3, e2]
theorem mundo_lp (hm : MO w) {a : Int} (ha : mI w 238 22 = a) (a0 : 0 ≤ a) (a9 : a ≤ 9) {f : Nat → Int} (hf : ∀ k : Nat, k < 298 → mI w 243 (298 * a.toNat + k) = f k) : ∀ (n : Nat) (i : Int) (q : Nat → Int), 0 ≤ i → i + n = 298 → rn 304 (38, [(0, jvr 238), (1, .inl i)], [], setA w 241 q) = rn 304 (72, [(0, jvr 238), (1, .inl 298)], [], setA w 241 (fun k => if i ≤ k ∧ k < 298 then f k else q k)) := by
  intro n
  induction n with
  | zero =>
    intro i q i1 i2
    have e0 : i = 298 := by omega
    subst e0
    have e : (fun k : Nat => if (298 : Int) ≤ k ∧ k < 298 then f k else q k) = q := by
      funext k
      rw [if_neg (by omega)]
    rw [e, p304_38]
    simp (disch := omega) only [p304_0, p304_1, p304_2, p304_5, p304_6, p304_9n, p304_9s, p304_12, p304_13, p304_16, p304_19, p304_20, p304_22, p304_25, p304_26, p304_27i, p304_27a, p304_28, p304_31, p304_32, p304_33, p304_36, p304_37, p304_39, p304_42, p304_45, p304_46, p304_49, p304_50, p304_51, p304_54, p304_57, p304_58, p304_61, p304_62, p304_63, p304_64, p304_65, p304_66, p304_69, p304_73, p304_76, jwd_c, jwd_0, Nat.reduceLeDiff, Nat.reduceEqDiff, Nat.reduceAdd, Nat.reduceSub, Nat.reduceMul, Int.reduceAdd, Int.reduceSub, Int.reduceMul, Int.reduceNeg, Int.reduceEq, Int.reduceLT, Int.reduceLE, jq_ldi_i, jq_ldl_l, jq_lda_a, jq_inc_i, jq_gs_t, jq_gsb_t, jq_gb_t, jq_gr_2, jq_gr_4, jq_gw_2, jq_s_t, jq_b_t, jg_c, jg_n, js_c, js_n, jrm_c, jrm_n, j2_i, j2_l, j2_a, jq_c_i, jq_c_l, jq_c_0, jq_c_n, jwd_le, jw_c0, mS_I, mS_R, mS_J, mN_I, mN_R, mN_J, mR_I, mI_R, mJ_I, mJ_R, mI_J, mR_J, ↓reduceIte, decide_true, or_true, true_or, and_self, false_or, or_false, reduceCtorEq, Bool.false_eq_true, and_false, false_and, eq_self, true_and, and_true, zero_ne, ↓br_lt_t, ↓br_lt_f, ↓br_eq_t, ↓br_eq_f, ↓br_lz_t, ↓br_lz_f, ↓br_ez_t, ↓br_ez_f, ↓br_gz_t, ↓br_gz_f, jw_id, jin_t, jix_t]
  | succ n ih =>
    intro i q i1 i2
    have e := ih (i + 1) (up1 q i.toNat (f i.toNat)) (by omega) (by omega)
    have e2 : (fun k : Nat => if i + 1 ≤ k ∧ k < 298 then f k else up1 q i.toNat (f i.toNat) k) = (fun k : Nat => if i ≤ k ∧ k < 298 then f k else q k) := by
      funext k
      by_cases z : k = i.toNat
      · rw [z, if_neg (by omega), if_pos (by omega), up1_s]
      · rw [up1_n z]
        by_cases y : i ≤ k ∧ k < 298
        · rw [if_pos y, if_pos (by omega)]
        · rw [if_neg y, if_neg (by omega)]
    have hv := hf i.toNat (by omega)
    rw [show 298 * a.toNat + i.toNat = (298 * a + i).toNat by omega] at hv
    rw [e2] at e
    rw [← e, ← hv, p304_38]
    simp (disch := omega) only [p304_0, p304_1, p304_2, p304_5, p304_6, p304_9n, p304_9s, p304_12, p304_13, p304_16, p304_19, p304_20, p304_22, p304_25, p304_26, p304_27i, p304_27a, p304_28, p304_31, p304_32, p304_33, p304_36, p304_37, p304_39, p304_42, p304_45, p304_46, p304_49, p304_50, p304_51, p304_54, p304_57, p304_58, p304_61, p304_62, p304_63, p304_64, p304_65, p304_66, p304_69, p304_73, p304_76, jwd_c, jwd_0, Nat.reduceLeDiff, Nat.reduceEqDiff, Nat.reduceAdd, Nat.reduceSub, Nat.reduceMul, Int.reduceAdd, Int.reduceSub, Int.reduceMul, Int.reduceNeg, Int.reduceEq, Int.reduceLT, Int.reduceLE, jq_ldi_i, jq_ldl_l, jq_lda_a, jq_inc_i, jq_gs_t, jq_gsb_t, jq_gb_t, jq_gr_2, jq_gr_4, jq_gw_2, jq_s_t, jq_b_t, jg_c, jg_n, js_c, js_n, jrm_c, jrm_n, j2_i, j2_l, j2_a, jq_c_i, jq_c_l, jq_c_0, jq_c_n, jwd_le, jw_c0, mS_I, mS_R, mS_J, mN_I, mN_R, mN_J, mR_I, mI_R, mJ_I, mJ_R, mI_J, mR_J, ↓reduceIte, decide_true, or_true, true_or, and_self, false_or, or_false, reduceCtorEq, Bool.false_eq_true, and_false, false_and, eq_self, true_and, and_true, zero_ne, ↓br_lt_t, ↓br_lt_f, ↓br_eq_t, ↓br_eq_f, ↓br_lz_t, ↓br_lz_f, ↓br_ez_t, ↓br_ez_f, ↓br_gz_t, ↓br_gz_f, jw_id, jin_t, jix_t, mI_A, mI_nA, up1_s, up1_n, mS_A, mR_A, mJ_A, mN_A, setI_A, setA_A, sw_238, sw_239, sw_240, sw_241, sw_242, sw_243, sw_244, sw_245, sw_246, sw_247, sw_248, sw_249, sw_250, sw_251, Int.reduceToNat, Int.toNat_natCast, MO.s0 hm, MO.s1 hm, MO.s2 hm, MO.s3 hm, MO.s4 hm, MO.s5 hm, MO.s6 hm, MO.s7 hm, MO.s8 hm, MO.s9 hm, MO.s10 hm, MO.s11 hm, MO.s12 hm, MO.s13 hm, MO.r1 hm, MO.r2 hm, MO.r3 hm, MO.r4 hm, MO.r5 hm, MO.r6 hm, MO.r7 hm, MO.r8 hm, MO.r9 hm, MO.r10 hm, MO.r11 hm, MO.r12 hm, MO.r13 hm, ha]
theorem cp_fun {f q : Nat → Int} : (fun k : Nat => if (0 : Int) ≤ k ∧ k < 298 then f k else q k) = gCp f q := by
  funext k
  unfold gCp
  by_cases y : k < 298
  · rw [if_pos y, if_pos (by omega)]
  · rw [if_neg y, if_neg (by omega)]
theorem mX.cnt (X : mX w h H s) {n : Nat} (hn : n ≤ s.2.1) : mX (setI w 238 22 n) h H (s.1, n, s.2.2) := by
  obtain ⟨a1, a2, ⟨a3, a4, a5⟩, a6⟩ := X
  exact ⟨a1.z, by rw [mI_nb (by omega)]; exact a2, ⟨mI_s _ _ _ _, by show n ≤ 10; omega, fun i k hi hk => by
    rw [mI_nb (by omega)]
    have hi2 : i < n := hi
    exact a5 i k (by omega) hk⟩, by rw [mI_nk (by omega), mI_nb (by omega)]; exact a6⟩
theorem d_undo (hX : mX w h H s) : ∃ u, rn 304 (0, [(0, jvr 238)], [], w) = some (some (.inl (A43 s).1), u) ∧ qN w u h H (A43 s).2.2 (A43 s).2.1 := by
  have hs0 := hX.1.1.s0
  have X0 := hX.z
  have e00 : rn 304 (0, [(0, jvr 238)], [], w) = rn 304 (5, [(0, jvr 238)], [], setI w 238 0 0) := by
    simp only [p304_0, p304_1, p304_2, jwd_c, jwd_0, Nat.reduceLeDiff, Nat.reduceEqDiff, Nat.reduceAdd, Nat.reduceSub, Nat.reduceMul, Int.reduceAdd, Int.reduceSub, Int.reduceMul, Int.reduceNeg, Int.reduceEq, Int.reduceLT, Int.reduceLE, jq_ldi_i, jq_ldl_l, jq_lda_a, jq_inc_i, jq_gs_t, jq_gsb_t, jq_gb_t, jq_gr_2, jq_gr_4, jq_gw_2, jq_s_t, jq_b_t, jg_c, jg_n, js_c, js_n, jrm_c, jrm_n, j2_i, j2_l, j2_a, jq_c_i, jq_c_l, jq_c_0, jq_c_n, jwd_le, jw_c0, mS_I, mS_R, mS_J, mN_I, mN_R, mN_J, mR_I, mI_R, mJ_I, mJ_R, mI_J, mR_J, ↓reduceIte, decide_true, or_true, true_or, and_self, false_or, or_false, reduceCtorEq, Bool.false_eq_true, and_false, false_and, eq_self, true_and, and_true, zero_ne, hs0]
  rw [e00]
  clear e00
  generalize hw0 : setI w 238 0 0 = w0 at *
  have hq1 := X0.1
  have hv0 := X0.2.1
  have hm := X0.1.1
  have hh := X0.1.2.1
  have h3 := X0.1.2.2
  have hge := hh.ge
  have c22 := X0.2.2.1.1
  have c10 := X0.2.2.1.2.1
  have c43 := X0.2.2.1.2.2
  unfold A43
  by_cases q : s.2.1 = 0
  · rw [if_pos q]
    refine ⟨_, ?_, hX.no hw0⟩
    simp (disch := omega) only [p304_0, p304_1, p304_2, p304_5, p304_6, p304_9n, p304_9s, p304_12, p304_13, p304_16, p304_19, p304_20, p304_22, p304_25, p304_26, p304_27i, p304_27a, p304_28, p304_31, p304_32, p304_33, p304_36, p304_37, p304_39, p304_42, p304_45, p304_46, p304_49, p304_50, p304_51, p304_54, p304_57, p304_58, p304_61, p304_62, p304_63, p304_64, p304_65, p304_66, p304_69, p304_73, p304_76, p213_0, p213_1, p213_2, p213_5, p213_6, p213_7, p213_10, p213_11, p176_0, p176_1, p176_2, p176_5, p176_6, p176_7, p176_10, p176_11, p297_0, p297_1, p297_2, p297_5, p297_6, p297_7, p298_0, p298_1, p298_2, p298_5, p298_6, p298_7, jwd_c, jwd_0, Nat.reduceLeDiff, Nat.reduceEqDiff, Nat.reduceAdd, Nat.reduceSub, Nat.reduceMul, Int.reduceAdd, Int.reduceSub, Int.reduceMul, Int.reduceNeg, Int.reduceEq, Int.reduceLT, Int.reduceLE, jq_ldi_i, jq_ldl_l, jq_lda_a, jq_inc_i, jq_gs_t, jq_gsb_t, jq_gb_t, jq_gr_2, jq_gr_4, jq_gw_2, jq_s_t, jq_b_t, jg_c, jg_n, js_c, js_n, jrm_c, jrm_n, j2_i, j2_l, j2_a, jq_c_i, jq_c_l, jq_c_0, jq_c_n, jwd_le, jw_c0, mS_I, mS_R, mS_J, mN_I, mN_R, mN_J, mR_I, mI_R, mJ_I, mJ_R, mI_J, mR_J, ↓reduceIte, decide_true, or_true, true_or, and_self, false_or, or_false, reduceCtorEq, Bool.false_eq_true, and_false, false_and, eq_self, true_and, and_true, zero_ne, ↓br_lt_t, ↓br_lt_f, ↓br_eq_t, ↓br_eq_f, ↓br_lz_t, ↓br_lz_f, ↓br_ez_t, ↓br_ez_f, ↓br_gz_t, ↓br_gz_f, jw_id, jin_t, jix_t, ↓ite_t, ↓ite_f, MO.s0 hm, MO.s1 hm, MO.s2 hm, MO.s3 hm, MO.s4 hm, MO.s5 hm, MO.s6 hm, MO.s7 hm, MO.s8 hm, MO.s9 hm, MO.s10 hm, MO.s11 hm, MO.s12 hm, MO.s13 hm, MO.r1 hm, MO.r2 hm, MO.r3 hm, MO.r4 hm, MO.r5 hm, MO.r6 hm, MO.r7 hm, MO.r8 hm, MO.r9 hm, MO.r10 hm, MO.r11 hm, MO.r12 hm, MO.r13 hm, h3, c22]
  · rw [if_neg q]
    have X1 := X0.cnt (n := s.2.1 - 1) (by omega)
    have hm1 := X1.1.1
    have v1 : mI (setI w0 238 22 ((s.2.1 - 1 : Nat) : Int)) 241 = s.1 := X1.2.1
    have e1 := mundo_lp (w := setI w0 238 22 ((s.2.1 - 1 : Nat) : Int)) hm1 (a := ((s.2.1 - 1 : Nat) : Int)) (mI_s _ _ _ _) (by omega) (by omega) (f := s.2.2.1 (s.2.1 - 1)) (fun k hk => by
      rw [mI_nb (by omega), Int.toNat_natCast]
      exact c43 _ k (by omega) hk) 298 0 (mI (setI w0 238 22 ((s.2.1 - 1 : Nat) : Int)) 241) (by omega) (by omega)
    rw [setA_self, cp_fun, v1] at e1
    have X2 := X1.row (f := gCp (s.2.2.1 (s.2.1 - 1)) s.1)
    have f2 : Fr (fun b => b = 238 ∨ (241 ≤ b ∧ b ≤ 251)) w0 (setA (setI w0 238 22 ((s.2.1 - 1 : Nat) : Int)) 241 (gCp (s.2.2.1 (s.2.1 - 1)) s.1)) := (Fr.I (Or.inl rfl)).tr (Fr.A (Or.inr ⟨by omega, by omega⟩))
    refine ⟨_, ?_, X2.fin hw0 f2 (by rw [← hw0]; rfl) (fun k k1 k2 => by rw [mI_nA (by omega), mI_nk (by omega)])⟩
    have cc : (s.2.1 : Int) - 1 = ((s.2.1 - 1 : Nat) : Int) := by omega
    have st : rn 304 (5, [(0, jvr 238)], [], w0) = rn 304 (38, [(0, jvr 238), (1, .inl 0)], [], setI w0 238 22 ((s.2.1 - 1 : Nat) : Int)) := by
      simp (disch := omega) only [p304_0, p304_1, p304_2, p304_5, p304_6, p304_9n, p304_9s, p304_12, p304_13, p304_16, p304_19, p304_20, p304_22, p304_25, p304_26, p304_27i, p304_27a, p304_28, p304_31, p304_32, p304_33, p304_36, p304_37, p304_39, p304_42, p304_45, p304_46, p304_49, p304_50, p304_51, p304_54, p304_57, p304_58, p304_61, p304_62, p304_63, p304_64, p304_65, p304_66, p304_69, p304_73, p304_76, jwd_c, jwd_0, Nat.reduceLeDiff, Nat.reduceEqDiff, Nat.reduceAdd, Nat.reduceSub, Nat.reduceMul, Int.reduceAdd, Int.reduceSub, Int.reduceMul, Int.reduceNeg, Int.reduceEq, Int.reduceLT, Int.reduceLE, jq_ldi_i, jq_ldl_l, jq_lda_a, jq_inc_i, jq_gs_t, jq_gsb_t, jq_gb_t, jq_gr_2, jq_gr_4, jq_gw_2, jq_s_t, jq_b_t, jg_c, jg_n, js_c, js_n, jrm_c, jrm_n, j2_i, j2_l, j2_a, jq_c_i, jq_c_l, jq_c_0, jq_c_n, jwd_le, jw_c0, mS_I, mS_R, mS_J, mN_I, mN_R, mN_J, mR_I, mI_R, mJ_I, mJ_R, mI_J, mR_J, ↓reduceIte, decide_true, or_true, true_or, and_self, false_or, or_false, reduceCtorEq, Bool.false_eq_true, and_false, false_and, eq_self, true_and, and_true, zero_ne, ↓br_lt_t, ↓br_lt_f, ↓br_eq_t, ↓br_eq_f, ↓br_lz_t, ↓br_lz_f, ↓br_ez_t, ↓br_ez_f, ↓br_gz_t, ↓br_gz_f, jw_id, jin_t, jix_t, ↓ite_t, ↓ite_f, MO.s0 hm, MO.s1 hm, MO.s2 hm, MO.s3 hm, MO.s4 hm, MO.s5 hm, MO.s6 hm, MO.s7 hm, MO.s8 hm, MO.s9 hm, MO.s10 hm, MO.s11 hm, MO.s12 hm, MO.s13 hm, MO.r1 hm, MO.r2 hm, MO.r3 hm, MO.r4 hm, MO.r5 hm, MO.r6 hm, MO.r7 hm, MO.r8 hm, MO.r9 hm, MO.r10 hm, MO.r11 hm, MO.r12 hm, MO.r13 hm, h3, c22, cc]
    rw [st, e1, p304_72]
    have hm2 := X2.1.1
    simp (disch := omega) only [p304_0, p304_1, p304_2, p304_5, p304_6, p304_9n, p304_9s, p304_12, p304_13, p304_16, p304_19, p304_20, p304_22, p304_25, p304_26, p304_27i, p304_27a, p304_28, p304_31, p304_32, p304_33, p304_36, p304_37, p304_39, p304_42, p304_45, p304_46, p304_49, p304_50, p304_51, p304_54, p304_57, p304_58, p304_61, p304_62, p304_63, p304_64, p304_65, p304_66, p304_69, p304_73, p304_76, p213_0, p213_1, p213_2, p213_5, p213_6, p213_7, p213_10, p213_11, p176_0, p176_1, p176_2, p176_5, p176_6, p176_7, p176_10, p176_11, p297_0, p297_1, p297_2, p297_5, p297_6, p297_7, p298_0, p298_1, p298_2, p298_5, p298_6, p298_7, jwd_c, jwd_0, Nat.reduceLeDiff, Nat.reduceEqDiff, Nat.reduceAdd, Nat.reduceSub, Nat.reduceMul, Int.reduceAdd, Int.reduceSub, Int.reduceMul, Int.reduceNeg, Int.reduceEq, Int.reduceLT, Int.reduceLE, jq_ldi_i, jq_ldl_l, jq_lda_a, jq_inc_i, jq_gs_t, jq_gsb_t, jq_gb_t, jq_gr_2, jq_gr_4, jq_gw_2, jq_s_t, jq_b_t, jg_c, jg_n, js_c, js_n, jrm_c, jrm_n, j2_i, j2_l, j2_a, jq_c_i, jq_c_l, jq_c_0, jq_c_n, jwd_le, jw_c0, mS_I, mS_R, mS_J, mN_I, mN_R, mN_J, mR_I, mI_R, mJ_I, mJ_R, mI_J, mR_J, ↓reduceIte, decide_true, or_true, true_or, and_self, false_or, or_false, reduceCtorEq, Bool.false_eq_true, and_false, false_and, eq_self, true_and, and_true, zero_ne, ↓br_lt_t, ↓br_lt_f, ↓br_eq_t, ↓br_eq_f, ↓br_lz_t, ↓br_lz_f, ↓br_ez_t, ↓br_ez_f, ↓br_gz_t, ↓br_gz_f, jw_id, jin_t, jix_t, ↓ite_t, ↓ite_f, MO.s0 hm2]
theorem mmark_lp (hm : MO w) (hr : mI w 241 = r) {a : Int} (ha : mI w 238 23 = a) (a0 : 0 ≤ a) (a9 : a ≤ 2) : ∀ (n : Nat) (i : Int) (q : Nat → Int), 0 ≤ i → i + n = 298 → rn 305 (34, [(0, jvr 238), (1, .inl i)], [], setA w 244 q) = rn 305 (68, [(0, jvr 238), (1, .inl 298)], [], setA w 244 (fun k => if 298 * a + i ≤ k ∧ k < 298 * a + 298 then r (k - (298 * a).toNat) else q k)) := by
  intro n
  induction n with
  | zero =>
    intro i q i1 i2
    have e0 : i = 298 := by omega
    subst e0
    have e : (fun k : Nat => if 298 * a + 298 ≤ k ∧ k < 298 * a + 298 then r (k - (298 * a).toNat) else q k) = q := by
      funext k
      rw [if_neg (by omega)]
    rw [e, p305_34]
    simp (disch := omega) only [p305_0, p305_1, p305_2, p305_5, p305_6, p305_9n, p305_9s, p305_12, p305_13, p305_14, p305_17, p305_18, p305_19, p305_22, p305_23, p305_26, p305_27, p305_28, p305_31, p305_32, p305_33, p305_35, p305_38, p305_41, p305_42, p305_45, p305_48, p305_49, p305_52, p305_53, p305_54, p305_55, p305_56, p305_59, p305_60, p305_61, p305_62, p305_65, p305_69i, p305_69a, p305_70, p305_73, p305_74, p305_75, p305_78, p305_79, p305_80, p305_83, p305_84, p305_85, p305_88, jwd_c, jwd_0, Nat.reduceLeDiff, Nat.reduceEqDiff, Nat.reduceAdd, Nat.reduceSub, Nat.reduceMul, Int.reduceAdd, Int.reduceSub, Int.reduceMul, Int.reduceNeg, Int.reduceEq, Int.reduceLT, Int.reduceLE, jq_ldi_i, jq_ldl_l, jq_lda_a, jq_inc_i, jq_gs_t, jq_gsb_t, jq_gb_t, jq_gr_2, jq_gr_4, jq_gw_2, jq_s_t, jq_b_t, jg_c, jg_n, js_c, js_n, jrm_c, jrm_n, j2_i, j2_l, j2_a, jq_c_i, jq_c_l, jq_c_0, jq_c_n, jwd_le, jw_c0, mS_I, mS_R, mS_J, mN_I, mN_R, mN_J, mR_I, mI_R, mJ_I, mJ_R, mI_J, mR_J, ↓reduceIte, decide_true, or_true, true_or, and_self, false_or, or_false, reduceCtorEq, Bool.false_eq_true, and_false, false_and, eq_self, true_and, and_true, zero_ne, ↓br_lt_t, ↓br_lt_f, ↓br_eq_t, ↓br_eq_f, ↓br_lz_t, ↓br_lz_f, ↓br_ez_t, ↓br_ez_f, ↓br_gz_t, ↓br_gz_f, jw_id, jin_t, jix_t]
  | succ n ih =>
    intro i q i1 i2
    have e := ih (i + 1) (up1 q (298 * a + i).toNat (r i.toNat)) (by omega) (by omega)
    have e2 : (fun k : Nat => if 298 * a + (i + 1) ≤ k ∧ k < 298 * a + 298 then r (k - (298 * a).toNat) else up1 q (298 * a + i).toNat (r i.toNat) k) = (fun k : Nat => if 298 * a + i ≤ k ∧ k < 298 * a + 298 then r (k - (298 * a).toNat) else q k) := by
      funext k
      by_cases z : k = (298 * a + i).toNat
      · rw [z, if_neg (by omega), if_pos (by omega), up1_s, show (298 * a + i).toNat - (298 * a).toNat = i.toNat by omega]
      · rw [up1_n z]
        by_cases y : 298 * a + i ≤ k ∧ k < 298 * a + 298
        · rw [if_pos y, if_pos (by omega)]
        · rw [if_neg y, if_neg (by omega)]
    rw [e2] at e
    rw [← e, p305_34]
    simp (disch := omega) only [p305_0, p305_1, p305_2, p305_5, p305_6, p305_9n, p305_9s, p305_12, p305_13, p305_14, p305_17, p305_18, p305_19, p305_22, p305_23, p305_26, p305_27, p305_28, p305_31, p305_32, p305_33, p305_35, p305_38, p305_41, p305_42, p305_45, p305_48, p305_49, p305_52, p305_53, p305_54, p305_55, p305_56, p305_59, p305_60, p305_61, p305_62, p305_65, p305_69i, p305_69a, p305_70, p305_73, p305_74, p305_75, p305_78, p305_79, p305_80, p305_83, p305_84, p305_85, p305_88, jwd_c, jwd_0, Nat.reduceLeDiff, Nat.reduceEqDiff, Nat.reduceAdd, Nat.reduceSub, Nat.reduceMul, Int.reduceAdd, Int.reduceSub, Int.reduceMul, Int.reduceNeg, Int.reduceEq, Int.reduceLT, Int.reduceLE, jq_ldi_i, jq_ldl_l, jq_lda_a, jq_inc_i, jq_gs_t, jq_gsb_t, jq_gb_t, jq_gr_2, jq_gr_4, jq_gw_2, jq_s_t, jq_b_t, jg_c, jg_n, js_c, js_n, jrm_c, jrm_n, j2_i, j2_l, j2_a, jq_c_i, jq_c_l, jq_c_0, jq_c_n, jwd_le, jw_c0, mS_I, mS_R, mS_J, mN_I, mN_R, mN_J, mR_I, mI_R, mJ_I, mJ_R, mI_J, mR_J, ↓reduceIte, decide_true, or_true, true_or, and_self, false_or, or_false, reduceCtorEq, Bool.false_eq_true, and_false, false_and, eq_self, true_and, and_true, zero_ne, ↓br_lt_t, ↓br_lt_f, ↓br_eq_t, ↓br_eq_f, ↓br_lz_t, ↓br_lz_f, ↓br_ez_t, ↓br_ez_f, ↓br_gz_t, ↓br_gz_f, jw_id, jin_t, jix_t, mI_A, mI_nA, up1_s, up1_n, mS_A, mR_A, mJ_A, mN_A, setI_A, setA_A, sw_238, sw_239, sw_240, sw_241, sw_242, sw_243, sw_244, sw_245, sw_246, sw_247, sw_248, sw_249, sw_250, sw_251, Int.reduceToNat, Int.toNat_natCast, MO.s0 hm, MO.s1 hm, MO.s2 hm, MO.s3 hm, MO.s4 hm, MO.s5 hm, MO.s6 hm, MO.s7 hm, MO.s8 hm, MO.s9 hm, MO.s10 hm, MO.s11 hm, MO.s12 hm, MO.s13 hm, MO.r1 hm, MO.r2 hm, MO.r3 hm, MO.r4 hm, MO.r5 hm, MO.r6 hm, MO.r7 hm, MO.r8 hm, MO.r9 hm, MO.r10 hm, MO.r11 hm, MO.r12 hm, MO.r13 hm, ha, hr]
theorem d_mark (hX : mX w h H s) : ∃ u, rn 305 (0, [(0, jvr 238)], [], w) = some (some (.inl (A44 s).1), u) ∧ qN w u h H (A44 s).2.2 (A44 s).2.1 := by
  have hs0 := hX.1.1.s0
  have X0 := hX.z
  have e00 : rn 305 (0, [(0, jvr 238)], [], w) = rn 305 (5, [(0, jvr 238)], [], setI w 238 0 0) := by
    simp only [p305_0, p305_1, p305_2, jwd_c, jwd_0, Nat.reduceLeDiff, Nat.reduceEqDiff, Nat.reduceAdd, Nat.reduceSub, Nat.reduceMul, Int.reduceAdd, Int.reduceSub, Int.reduceMul, Int.reduceNeg, Int.reduceEq, Int.reduceLT, Int.reduceLE, jq_ldi_i, jq_ldl_l, jq_lda_a, jq_inc_i, jq_gs_t, jq_gsb_t, jq_gb_t, jq_gr_2, jq_gr_4, jq_gw_2, jq_s_t, jq_b_t, jg_c, jg_n, js_c, js_n, jrm_c, jrm_n, j2_i, j2_l, j2_a, jq_c_i, jq_c_l, jq_c_0, jq_c_n, jwd_le, jw_c0, mS_I, mS_R, mS_J, mN_I, mN_R, mN_J, mR_I, mI_R, mJ_I, mJ_R, mI_J, mR_J, ↓reduceIte, decide_true, or_true, true_or, and_self, false_or, or_false, reduceCtorEq, Bool.false_eq_true, and_false, false_and, eq_self, true_and, and_true, zero_ne, hs0]
  rw [e00]
  clear e00
  generalize hw0 : setI w 238 0 0 = w0 at *
  have hq1 := X0.1
  have hv0 := X0.2.1
  have hm := X0.1.1
  have hh := X0.1.2.1
  have h3 := X0.1.2.2
  have hge := hh.ge
  have c23 := X0.2.2.2.1
  have c3 := X0.2.2.2.2.1
  have c44 := X0.2.2.2.2.2
  unfold A44
  by_cases q : s.2.2.2.1 = 3
  · rw [if_pos q]
    refine ⟨_, ?_, hX.no hw0⟩
    simp (disch := omega) only [p305_0, p305_1, p305_2, p305_5, p305_6, p305_9n, p305_9s, p305_12, p305_13, p305_14, p305_17, p305_18, p305_19, p305_22, p305_23, p305_26, p305_27, p305_28, p305_31, p305_32, p305_33, p305_35, p305_38, p305_41, p305_42, p305_45, p305_48, p305_49, p305_52, p305_53, p305_54, p305_55, p305_56, p305_59, p305_60, p305_61, p305_62, p305_65, p305_69i, p305_69a, p305_70, p305_73, p305_74, p305_75, p305_78, p305_79, p305_80, p305_83, p305_84, p305_85, p305_88, p213_0, p213_1, p213_2, p213_5, p213_6, p213_7, p213_10, p213_11, p176_0, p176_1, p176_2, p176_5, p176_6, p176_7, p176_10, p176_11, p297_0, p297_1, p297_2, p297_5, p297_6, p297_7, p298_0, p298_1, p298_2, p298_5, p298_6, p298_7, jwd_c, jwd_0, Nat.reduceLeDiff, Nat.reduceEqDiff, Nat.reduceAdd, Nat.reduceSub, Nat.reduceMul, Int.reduceAdd, Int.reduceSub, Int.reduceMul, Int.reduceNeg, Int.reduceEq, Int.reduceLT, Int.reduceLE, jq_ldi_i, jq_ldl_l, jq_lda_a, jq_inc_i, jq_gs_t, jq_gsb_t, jq_gb_t, jq_gr_2, jq_gr_4, jq_gw_2, jq_s_t, jq_b_t, jg_c, jg_n, js_c, js_n, jrm_c, jrm_n, j2_i, j2_l, j2_a, jq_c_i, jq_c_l, jq_c_0, jq_c_n, jwd_le, jw_c0, mS_I, mS_R, mS_J, mN_I, mN_R, mN_J, mR_I, mI_R, mJ_I, mJ_R, mI_J, mR_J, ↓reduceIte, decide_true, or_true, true_or, and_self, false_or, or_false, reduceCtorEq, Bool.false_eq_true, and_false, false_and, eq_self, true_and, and_true, zero_ne, ↓br_lt_t, ↓br_lt_f, ↓br_eq_t, ↓br_eq_f, ↓br_lz_t, ↓br_lz_f, ↓br_ez_t, ↓br_ez_f, ↓br_gz_t, ↓br_gz_f, jw_id, jin_t, jix_t, ↓ite_t, ↓ite_f, MO.s0 hm, MO.s1 hm, MO.s2 hm, MO.s3 hm, MO.s4 hm, MO.s5 hm, MO.s6 hm, MO.s7 hm, MO.s8 hm, MO.s9 hm, MO.s10 hm, MO.s11 hm, MO.s12 hm, MO.s13 hm, MO.r1 hm, MO.r2 hm, MO.r3 hm, MO.r4 hm, MO.r5 hm, MO.r6 hm, MO.r7 hm, MO.r8 hm, MO.r9 hm, MO.r10 hm, MO.r11 hm, MO.r12 hm, MO.r13 hm, h3, c23]
  · rw [if_neg q]
    have e1 := mmark_lp hm hv0 c23 (by omega) (by omega) 298 0 (mI w0 244) (by omega) (by omega)
    rw [setA_self] at e1
    generalize hP : (fun k : Nat => if 298 * (s.2.2.2.1 : Int) + 0 ≤ k ∧ (k : Int) < 298 * (s.2.2.2.1 : Int) + 298 then s.1 (k - (298 * (s.2.2.2.1 : Int)).toNat) else mI w0 244 k) = P at e1
    have f2 : Fr (fun b => b = 238 ∨ (241 ≤ b ∧ b ≤ 251)) w0 (setI (setA w0 244 P) 238 23 ((s.2.2.2.1 : Int) + 1)) := (Fr.A (Or.inr ⟨by omega, by omega⟩)).tr (Fr.I (Or.inl rfl))
    have X2 : mX (setI (setA w0 244 P) 238 23 ((s.2.2.2.1 : Int) + 1)) h H (s.1, s.2.1, s.2.2.1, s.2.2.2.1 + 1, gPuQ 3 s.2.2.2.1 s.2.2.2.2 s.1) := by
      refine ⟨⟨X0.1.1.frR rfl rfl, X0.1.2.1.frF f2 (fun b hb => by omega), X0.1.2.2⟩, by rw [mI_nb (by omega), mI_nA (by omega)]; exact hv0, ?_, ?_⟩
      · rw [mI_nk (by omega), mI_nA (by omega), mI_nb (by omega), mI_nA (by omega)]
        exact X0.2.2.1
      · refine ⟨?_, by show s.2.2.2.1 + 1 ≤ 3; omega, fun i k hi hk => ?_⟩
        · rw [mI_s]
          show _ = ((s.2.2.2.1 + 1 : Nat) : Int)
          omega
        · have hi2 : i < s.2.2.2.1 + 1 := hi
          rw [mI_nb (by omega), mI_A, ← hP]
          show _ = gPuQ 3 s.2.2.2.1 s.2.2.2.2 s.1 i k
          unfold gPuQ
          rw [if_neg q]
          dsimp only
          by_cases z : i < s.2.2.2.1
          · rw [if_pos z, if_neg (by omega)]
            exact c44 i k z hk
          · rw [if_neg z, if_pos (by omega), show 298 * i + k - (298 * (s.2.2.2.1 : Int)).toNat = k by omega]
    refine ⟨_, ?_, X2.fin hw0 f2 (by rw [← hw0]; rfl) (fun k k1 k2 => by rw [mI_nk (by omega), mI_nA (by omega)])⟩
    have st : rn 305 (5, [(0, jvr 238)], [], w0) = rn 305 (34, [(0, jvr 238), (1, .inl 0)], [], w0) := by
      simp (disch := omega) only [p305_0, p305_1, p305_2, p305_5, p305_6, p305_9n, p305_9s, p305_12, p305_13, p305_14, p305_17, p305_18, p305_19, p305_22, p305_23, p305_26, p305_27, p305_28, p305_31, p305_32, p305_33, p305_35, p305_38, p305_41, p305_42, p305_45, p305_48, p305_49, p305_52, p305_53, p305_54, p305_55, p305_56, p305_59, p305_60, p305_61, p305_62, p305_65, p305_69i, p305_69a, p305_70, p305_73, p305_74, p305_75, p305_78, p305_79, p305_80, p305_83, p305_84, p305_85, p305_88, jwd_c, jwd_0, Nat.reduceLeDiff, Nat.reduceEqDiff, Nat.reduceAdd, Nat.reduceSub, Nat.reduceMul, Int.reduceAdd, Int.reduceSub, Int.reduceMul, Int.reduceNeg, Int.reduceEq, Int.reduceLT, Int.reduceLE, jq_ldi_i, jq_ldl_l, jq_lda_a, jq_inc_i, jq_gs_t, jq_gsb_t, jq_gb_t, jq_gr_2, jq_gr_4, jq_gw_2, jq_s_t, jq_b_t, jg_c, jg_n, js_c, js_n, jrm_c, jrm_n, j2_i, j2_l, j2_a, jq_c_i, jq_c_l, jq_c_0, jq_c_n, jwd_le, jw_c0, mS_I, mS_R, mS_J, mN_I, mN_R, mN_J, mR_I, mI_R, mJ_I, mJ_R, mI_J, mR_J, ↓reduceIte, decide_true, or_true, true_or, and_self, false_or, or_false, reduceCtorEq, Bool.false_eq_true, and_false, false_and, eq_self, true_and, and_true, zero_ne, ↓br_lt_t, ↓br_lt_f, ↓br_eq_t, ↓br_eq_f, ↓br_lz_t, ↓br_lz_f, ↓br_ez_t, ↓br_ez_f, ↓br_gz_t, ↓br_gz_f, jw_id, jin_t, jix_t, ↓ite_t, ↓ite_f, MO.s0 hm, MO.s1 hm, MO.s2 hm, MO.s3 hm, MO.s4 hm, MO.s5 hm, MO.s6 hm, MO.s7 hm, MO.s8 hm, MO.s9 hm, MO.s10 hm, MO.s11 hm, MO.s12 hm, MO.s13 hm, MO.r1 hm, MO.r2 hm, MO.r3 hm, MO.r4 hm, MO.r5 hm, MO.r6 hm, MO.r7 hm, MO.r8 hm, MO.r9 hm, MO.r10 hm, MO.r11 hm, MO.r12 hm, MO.r13 hm, h3, c23]
    rw [st, e1, p305_68]
    have i23 : mI (setA w0 244 P) 238 23 = s.2.2.2.1 := by rw [mI_nA (by omega)]; exact c23
    have s0 : mS (setA w0 244 P) 238 = (1, 9, 0) := hm.s0
    simp (disch := omega) only [p305_0, p305_1, p305_2, p305_5, p305_6, p305_9n, p305_9s, p305_12, p305_13, p305_14, p305_17, p305_18, p305_19, p305_22, p305_23, p305_26, p305_27, p305_28, p305_31, p305_32, p305_33, p305_35, p305_38, p305_41, p305_42, p305_45, p305_48, p305_49, p305_52, p305_53, p305_54, p305_55, p305_56, p305_59, p305_60, p305_61, p305_62, p305_65, p305_69i, p305_69a, p305_70, p305_73, p305_74, p305_75, p305_78, p305_79, p305_80, p305_83, p305_84, p305_85, p305_88, p213_0, p213_1, p213_2, p213_5, p213_6, p213_7, p213_10, p213_11, p176_0, p176_1, p176_2, p176_5, p176_6, p176_7, p176_10, p176_11, p297_0, p297_1, p297_2, p297_5, p297_6, p297_7, p298_0, p298_1, p298_2, p298_5, p298_6, p298_7, jwd_c, jwd_0, Nat.reduceLeDiff, Nat.reduceEqDiff, Nat.reduceAdd, Nat.reduceSub, Nat.reduceMul, Int.reduceAdd, Int.reduceSub, Int.reduceMul, Int.reduceNeg, Int.reduceEq, Int.reduceLT, Int.reduceLE, jq_ldi_i, jq_ldl_l, jq_lda_a, jq_inc_i, jq_gs_t, jq_gsb_t, jq_gb_t, jq_gr_2, jq_gr_4, jq_gw_2, jq_s_t, jq_b_t, jg_c, jg_n, js_c, js_n, jrm_c, jrm_n, j2_i, j2_l, j2_a, jq_c_i, jq_c_l, jq_c_0, jq_c_n, jwd_le, jw_c0, mS_I, mS_R, mS_J, mN_I, mN_R, mN_J, mR_I, mI_R, mJ_I, mJ_R, mI_J, mR_J, ↓reduceIte, decide_true, or_true, true_or, and_self, false_or, or_false, reduceCtorEq, Bool.false_eq_true, and_false, false_and, eq_self, true_and, and_true, zero_ne, ↓br_lt_t, ↓br_lt_f, ↓br_eq_t, ↓br_eq_f, ↓br_lz_t, ↓br_lz_f, ↓br_ez_t, ↓br_ez_f, ↓br_gz_t, ↓br_gz_f, jw_id, jin_t, jix_t, ↓ite_t, ↓ite_f, s0, i23, mI_s]
    rw [show (s.2.2.2.1 : Int) + 1 - 1 = s.2.2.2.1 by omega]
theorem mback_lp (hm : MO w) {m : Int} (m0 : 0 ≤ m) (m9 : m ≤ 2) {f : Nat → Int} (hf : ∀ k : Nat, k < 298 → mI w 244 (298 * m.toNat + k) = f k) : ∀ (n : Nat) (i : Int) (q : Nat → Int), 0 ≤ i → i + n = 298 → rn 306 (32, [(0, jvr 238), (1, .inl m), (2, .inl i)], [], setA w 241 q) = rn 306 (63, [(0, jvr 238), (1, .inl m), (2, .inl 298)], [], setA w 241 (fun k => if i ≤ k ∧ k < 298 then f k else q k)) := by
  intro n
  induction n with
  | zero =>
    intro i q i1 i2
    have e0 : i = 298 := by omega
    subst e0
    have e : (fun k : Nat => if (298 : Int) ≤ k ∧ k < 298 then f k else q k) = q := by
      funext k
      rw [if_neg (by omega)]
    rw [e, p306_32]
    simp (disch := omega) only [p306_0, p306_1, p306_2, p306_5, p306_6, p306_9n, p306_9s, p306_12, p306_13, p306_16, p306_17, p306_18, p306_21, p306_24, p306_25, p306_26, p306_29, p306_30, p306_31, p306_33, p306_36, p306_39, p306_40, p306_43, p306_44, p306_45, p306_48, p306_51, p306_52, p306_53, p306_54, p306_55, p306_56, p306_57, p306_60, p306_64, p306_65, p306_68, p306_69, p306_72, jwd_c, jwd_0, Nat.reduceLeDiff, Nat.reduceEqDiff, Nat.reduceAdd, Nat.reduceSub, Nat.reduceMul, Int.reduceAdd, Int.reduceSub, Int.reduceMul, Int.reduceNeg, Int.reduceEq, Int.reduceLT, Int.reduceLE, jq_ldi_i, jq_ldl_l, jq_lda_a, jq_inc_i, jq_gs_t, jq_gsb_t, jq_gb_t, jq_gr_2, jq_gr_4, jq_gw_2, jq_s_t, jq_b_t, jg_c, jg_n, js_c, js_n, jrm_c, jrm_n, j2_i, j2_l, j2_a, jq_c_i, jq_c_l, jq_c_0, jq_c_n, jwd_le, jw_c0, mS_I, mS_R, mS_J, mN_I, mN_R, mN_J, mR_I, mI_R, mJ_I, mJ_R, mI_J, mR_J, ↓reduceIte, decide_true, or_true, true_or, and_self, false_or, or_false, reduceCtorEq, Bool.false_eq_true, and_false, false_and, eq_self, true_and, and_true, zero_ne, ↓br_lt_t, ↓br_lt_f, ↓br_eq_t, ↓br_eq_f, ↓br_lz_t, ↓br_lz_f, ↓br_ez_t, ↓br_ez_f, ↓br_gz_t, ↓br_gz_f, jw_id, jin_t, jix_t]
  | succ n ih =>
    intro i q i1 i2
    have e := ih (i + 1) (up1 q i.toNat (f i.toNat)) (by omega) (by omega)
    have e2 : (fun k : Nat => if i + 1 ≤ k ∧ k < 298 then f k else up1 q i.toNat (f i.toNat) k) = (fun k : Nat => if i ≤ k ∧ k < 298 then f k else q k) := by
      funext k
      by_cases z : k = i.toNat
      · rw [z, if_neg (by omega), if_pos (by omega), up1_s]
      · rw [up1_n z]
        by_cases y : i ≤ k ∧ k < 298
        · rw [if_pos y, if_pos (by omega)]
        · rw [if_neg y, if_neg (by omega)]
    have hv := hf i.toNat (by omega)
    rw [show 298 * m.toNat + i.toNat = (298 * m + i).toNat by omega] at hv
    rw [e2] at e
    rw [← e, ← hv, p306_32]
    simp (disch := omega) only [p306_0, p306_1, p306_2, p306_5, p306_6, p306_9n, p306_9s, p306_12, p306_13, p306_16, p306_17, p306_18, p306_21, p306_24, p306_25, p306_26, p306_29, p306_30, p306_31, p306_33, p306_36, p306_39, p306_40, p306_43, p306_44, p306_45, p306_48, p306_51, p306_52, p306_53, p306_54, p306_55, p306_56, p306_57, p306_60, p306_64, p306_65, p306_68, p306_69, p306_72, jwd_c, jwd_0, Nat.reduceLeDiff, Nat.reduceEqDiff, Nat.reduceAdd, Nat.reduceSub, Nat.reduceMul, Int.reduceAdd, Int.reduceSub, Int.reduceMul, Int.reduceNeg, Int.reduceEq, Int.reduceLT, Int.reduceLE, jq_ldi_i, jq_ldl_l, jq_lda_a, jq_inc_i, jq_gs_t, jq_gsb_t, jq_gb_t, jq_gr_2, jq_gr_4, jq_gw_2, jq_s_t, jq_b_t, jg_c, jg_n, js_c, js_n, jrm_c, jrm_n, j2_i, j2_l, j2_a, jq_c_i, jq_c_l, jq_c_0, jq_c_n, jwd_le, jw_c0, mS_I, mS_R, mS_J, mN_I, mN_R, mN_J, mR_I, mI_R, mJ_I, mJ_R, mI_J, mR_J, ↓reduceIte, decide_true, or_true, true_or, and_self, false_or, or_false, reduceCtorEq, Bool.false_eq_true, and_false, false_and, eq_self, true_and, and_true, zero_ne, ↓br_lt_t, ↓br_lt_f, ↓br_eq_t, ↓br_eq_f, ↓br_lz_t, ↓br_lz_f, ↓br_ez_t, ↓br_ez_f, ↓br_gz_t, ↓br_gz_f, jw_id, jin_t, jix_t, mI_A, mI_nA, up1_s, up1_n, mS_A, mR_A, mJ_A, mN_A, setI_A, setA_A, sw_238, sw_239, sw_240, sw_241, sw_242, sw_243, sw_244, sw_245, sw_246, sw_247, sw_248, sw_249, sw_250, sw_251, Int.reduceToNat, Int.toNat_natCast, MO.s0 hm, MO.s1 hm, MO.s2 hm, MO.s3 hm, MO.s4 hm, MO.s5 hm, MO.s6 hm, MO.s7 hm, MO.s8 hm, MO.s9 hm, MO.s10 hm, MO.s11 hm, MO.s12 hm, MO.s13 hm, MO.r1 hm, MO.r2 hm, MO.r3 hm, MO.r4 hm, MO.r5 hm, MO.r6 hm, MO.r7 hm, MO.r8 hm, MO.r9 hm, MO.r10 hm, MO.r11 hm, MO.r12 hm, MO.r13 hm]
theorem d_back (hX : mX w h H s) {m : Int} (m1 : -2147483648 ≤ m) (m2 : m < 2147483648) : ∃ u, rn 306 (0, [(0, jvr 238), (1, .inl m)], [], w) = some (some (.inl (A45 s m).1), u) ∧ qN w u h H (A45 s m).2.2 (A45 s m).2.1 := by
  have hs0 := hX.1.1.s0
  have X0 := hX.z
  have e00 : rn 306 (0, [(0, jvr 238), (1, .inl m)], [], w) = rn 306 (5, [(0, jvr 238), (1, .inl m)], [], setI w 238 0 0) := by
    simp only [p306_0, p306_1, p306_2, jwd_c, jwd_0, Nat.reduceLeDiff, Nat.reduceEqDiff, Nat.reduceAdd, Nat.reduceSub, Nat.reduceMul, Int.reduceAdd, Int.reduceSub, Int.reduceMul, Int.reduceNeg, Int.reduceEq, Int.reduceLT, Int.reduceLE, jq_ldi_i, jq_ldl_l, jq_lda_a, jq_inc_i, jq_gs_t, jq_gsb_t, jq_gb_t, jq_gr_2, jq_gr_4, jq_gw_2, jq_s_t, jq_b_t, jg_c, jg_n, js_c, js_n, jrm_c, jrm_n, j2_i, j2_l, j2_a, jq_c_i, jq_c_l, jq_c_0, jq_c_n, jwd_le, jw_c0, mS_I, mS_R, mS_J, mN_I, mN_R, mN_J, mR_I, mI_R, mJ_I, mJ_R, mI_J, mR_J, ↓reduceIte, decide_true, or_true, true_or, and_self, false_or, or_false, reduceCtorEq, Bool.false_eq_true, and_false, false_and, eq_self, true_and, and_true, zero_ne, hs0]
  rw [e00]
  clear e00
  generalize hw0 : setI w 238 0 0 = w0 at *
  have hq1 := X0.1
  have hv0 := X0.2.1
  have hm := X0.1.1
  have hh := X0.1.2.1
  have h3 := X0.1.2.2
  have hge := hh.ge
  have c23 := X0.2.2.2.1
  have c3 := X0.2.2.2.2.1
  have c44 := X0.2.2.2.2.2
  unfold A45
  by_cases q0 : 0 ≤ m
  · by_cases q1 : m < s.2.2.2.1
    · rw [if_pos ⟨q0, q1⟩]
      have e1 := mback_lp hm (m := m) q0 (by omega) (f := s.2.2.2.2 m.toNat) (fun k hk => c44 _ k (by omega) hk) 298 0 (mI w0 241) (by omega) (by omega)
      rw [setA_self, cp_fun, hv0] at e1
      have X1 := (X0.row (f := gCp (s.2.2.2.2 m.toNat) s.1)).cnt (n := 0) (by omega)
      have f2 : Fr (fun b => b = 238 ∨ (241 ≤ b ∧ b ≤ 251)) w0 (setI (setA w0 241 (gCp (s.2.2.2.2 m.toNat) s.1)) 238 22 ((0 : Nat) : Int)) := (Fr.A (Or.inr ⟨by omega, by omega⟩)).tr (Fr.I (Or.inl rfl))
      refine ⟨_, ?_, X1.fin hw0 f2 (by rw [← hw0]; rfl) (fun k k1 k2 => by rw [mI_nk (by omega), mI_nA (by omega)])⟩
      have st : rn 306 (5, [(0, jvr 238), (1, .inl m)], [], w0) = rn 306 (32, [(0, jvr 238), (1, .inl m), (2, .inl 0)], [], w0) := by
        simp (disch := omega) only [p306_0, p306_1, p306_2, p306_5, p306_6, p306_9n, p306_9s, p306_12, p306_13, p306_16, p306_17, p306_18, p306_21, p306_24, p306_25, p306_26, p306_29, p306_30, p306_31, p306_33, p306_36, p306_39, p306_40, p306_43, p306_44, p306_45, p306_48, p306_51, p306_52, p306_53, p306_54, p306_55, p306_56, p306_57, p306_60, p306_64, p306_65, p306_68, p306_69, p306_72, jwd_c, jwd_0, Nat.reduceLeDiff, Nat.reduceEqDiff, Nat.reduceAdd, Nat.reduceSub, Nat.reduceMul, Int.reduceAdd, Int.reduceSub, Int.reduceMul, Int.reduceNeg, Int.reduceEq, Int.reduceLT, Int.reduceLE, jq_ldi_i, jq_ldl_l, jq_lda_a, jq_inc_i, jq_gs_t, jq_gsb_t, jq_gb_t, jq_gr_2, jq_gr_4, jq_gw_2, jq_s_t, jq_b_t, jg_c, jg_n, js_c, js_n, jrm_c, jrm_n, j2_i, j2_l, j2_a, jq_c_i, jq_c_l, jq_c_0, jq_c_n, jwd_le, jw_c0, mS_I, mS_R, mS_J, mN_I, mN_R, mN_J, mR_I, mI_R, mJ_I, mJ_R, mI_J, mR_J, ↓reduceIte, decide_true, or_true, true_or, and_self, false_or, or_false, reduceCtorEq, Bool.false_eq_true, and_false, false_and, eq_self, true_and, and_true, zero_ne, ↓br_lt_t, ↓br_lt_f, ↓br_eq_t, ↓br_eq_f, ↓br_lz_t, ↓br_lz_f, ↓br_ez_t, ↓br_ez_f, ↓br_gz_t, ↓br_gz_f, jw_id, jin_t, jix_t, ↓ite_t, ↓ite_f, MO.s0 hm, MO.s1 hm, MO.s2 hm, MO.s3 hm, MO.s4 hm, MO.s5 hm, MO.s6 hm, MO.s7 hm, MO.s8 hm, MO.s9 hm, MO.s10 hm, MO.s11 hm, MO.s12 hm, MO.s13 hm, MO.r1 hm, MO.r2 hm, MO.r3 hm, MO.r4 hm, MO.r5 hm, MO.r6 hm, MO.r7 hm, MO.r8 hm, MO.r9 hm, MO.r10 hm, MO.r11 hm, MO.r12 hm, MO.r13 hm, h3, c23]
      rw [st, e1, p306_63]
      have s0 : mS (setA w0 241 (gCp (s.2.2.2.2 m.toNat) s.1)) 238 = (1, 9, 0) := hm.s0
      simp (disch := omega) only [p306_0, p306_1, p306_2, p306_5, p306_6, p306_9n, p306_9s, p306_12, p306_13, p306_16, p306_17, p306_18, p306_21, p306_24, p306_25, p306_26, p306_29, p306_30, p306_31, p306_33, p306_36, p306_39, p306_40, p306_43, p306_44, p306_45, p306_48, p306_51, p306_52, p306_53, p306_54, p306_55, p306_56, p306_57, p306_60, p306_64, p306_65, p306_68, p306_69, p306_72, p213_0, p213_1, p213_2, p213_5, p213_6, p213_7, p213_10, p213_11, p176_0, p176_1, p176_2, p176_5, p176_6, p176_7, p176_10, p176_11, p297_0, p297_1, p297_2, p297_5, p297_6, p297_7, p298_0, p298_1, p298_2, p298_5, p298_6, p298_7, jwd_c, jwd_0, Nat.reduceLeDiff, Nat.reduceEqDiff, Nat.reduceAdd, Nat.reduceSub, Nat.reduceMul, Int.reduceAdd, Int.reduceSub, Int.reduceMul, Int.reduceNeg, Int.reduceEq, Int.reduceLT, Int.reduceLE, jq_ldi_i, jq_ldl_l, jq_lda_a, jq_inc_i, jq_gs_t, jq_gsb_t, jq_gb_t, jq_gr_2, jq_gr_4, jq_gw_2, jq_s_t, jq_b_t, jg_c, jg_n, js_c, js_n, jrm_c, jrm_n, j2_i, j2_l, j2_a, jq_c_i, jq_c_l, jq_c_0, jq_c_n, jwd_le, jw_c0, mS_I, mS_R, mS_J, mN_I, mN_R, mN_J, mR_I, mI_R, mJ_I, mJ_R, mI_J, mR_J, ↓reduceIte, decide_true, or_true, true_or, and_self, false_or, or_false, reduceCtorEq, Bool.false_eq_true, and_false, false_and, eq_self, true_and, and_true, zero_ne, ↓br_lt_t, ↓br_lt_f, ↓br_eq_t, ↓br_eq_f, ↓br_lz_t, ↓br_lz_f, ↓br_ez_t, ↓br_ez_f, ↓br_gz_t, ↓br_gz_f, jw_id, jin_t, jix_t, ↓ite_t, ↓ite_f, s0]
      rfl
    · rw [if_neg (fun z => q1 z.2)]
      refine ⟨_, ?_, hX.no hw0⟩
      simp (disch := omega) only [p306_0, p306_1, p306_2, p306_5, p306_6, p306_9n, p306_9s, p306_12, p306_13, p306_16, p306_17, p306_18, p306_21, p306_24, p306_25, p306_26, p306_29, p306_30, p306_31, p306_33, p306_36, p306_39, p306_40, p306_43, p306_44, p306_45, p306_48, p306_51, p306_52, p306_53, p306_54, p306_55, p306_56, p306_57, p306_60, p306_64, p306_65, p306_68, p306_69, p306_72, p213_0, p213_1, p213_2, p213_5, p213_6, p213_7, p213_10, p213_11, p176_0, p176_1, p176_2, p176_5, p176_6, p176_7, p176_10, p176_11, p297_0, p297_1, p297_2, p297_5, p297_6, p297_7, p298_0, p298_1, p298_2, p298_5, p298_6, p298_7, jwd_c, jwd_0, Nat.reduceLeDiff, Nat.reduceEqDiff, Nat.reduceAdd, Nat.reduceSub, Nat.reduceMul, Int.reduceAdd, Int.reduceSub, Int.reduceMul, Int.reduceNeg, Int.reduceEq, Int.reduceLT, Int.reduceLE, jq_ldi_i, jq_ldl_l, jq_lda_a, jq_inc_i, jq_gs_t, jq_gsb_t, jq_gb_t, jq_gr_2, jq_gr_4, jq_gw_2, jq_s_t, jq_b_t, jg_c, jg_n, js_c, js_n, jrm_c, jrm_n, j2_i, j2_l, j2_a, jq_c_i, jq_c_l, jq_c_0, jq_c_n, jwd_le, jw_c0, mS_I, mS_R, mS_J, mN_I, mN_R, mN_J, mR_I, mI_R, mJ_I, mJ_R, mI_J, mR_J, ↓reduceIte, decide_true, or_true, true_or, and_self, false_or, or_false, reduceCtorEq, Bool.false_eq_true, and_false, false_and, eq_self, true_and, and_true, zero_ne, ↓br_lt_t, ↓br_lt_f, ↓br_eq_t, ↓br_eq_f, ↓br_lz_t, ↓br_lz_f, ↓br_ez_t, ↓br_ez_f, ↓br_gz_t, ↓br_gz_f, jw_id, jin_t, jix_t, ↓ite_t, ↓ite_f, MO.s0 hm, MO.s1 hm, MO.s2 hm, MO.s3 hm, MO.s4 hm, MO.s5 hm, MO.s6 hm, MO.s7 hm, MO.s8 hm, MO.s9 hm, MO.s10 hm, MO.s11 hm, MO.s12 hm, MO.s13 hm, MO.r1 hm, MO.r2 hm, MO.r3 hm, MO.r4 hm, MO.r5 hm, MO.r6 hm, MO.r7 hm, MO.r8 hm, MO.r9 hm, MO.r10 hm, MO.r11 hm, MO.r12 hm, MO.r13 hm, h3, c23]
  · rw [if_neg (fun z => q0 z.1)]
    refine ⟨_, ?_, hX.no hw0⟩
    simp (disch := omega) only [p306_0, p306_1, p306_2, p306_5, p306_6, p306_9n, p306_9s, p306_12, p306_13, p306_16, p306_17, p306_18, p306_21, p306_24, p306_25, p306_26, p306_29, p306_30, p306_31, p306_33, p306_36, p306_39, p306_40, p306_43, p306_44, p306_45, p306_48, p306_51, p306_52, p306_53, p306_54, p306_55, p306_56, p306_57, p306_60, p306_64, p306_65, p306_68, p306_69, p306_72, p213_0, p213_1, p213_2, p213_5, p213_6, p213_7, p213_10, p213_11, p176_0, p176_1, p176_2, p176_5, p176_6, p176_7, p176_10, p176_11, p297_0, p297_1, p297_2, p297_5, p297_6, p297_7, p298_0, p298_1, p298_2, p298_5, p298_6, p298_7, jwd_c, jwd_0, Nat.reduceLeDiff, Nat.reduceEqDiff, Nat.reduceAdd, Nat.reduceSub, Nat.reduceMul, Int.reduceAdd, Int.reduceSub, Int.reduceMul, Int.reduceNeg, Int.reduceEq, Int.reduceLT, Int.reduceLE, jq_ldi_i, jq_ldl_l, jq_lda_a, jq_inc_i, jq_gs_t, jq_gsb_t, jq_gb_t, jq_gr_2, jq_gr_4, jq_gw_2, jq_s_t, jq_b_t, jg_c, jg_n, js_c, js_n, jrm_c, jrm_n, j2_i, j2_l, j2_a, jq_c_i, jq_c_l, jq_c_0, jq_c_n, jwd_le, jw_c0, mS_I, mS_R, mS_J, mN_I, mN_R, mN_J, mR_I, mI_R, mJ_I, mJ_R, mI_J, mR_J, ↓reduceIte, decide_true, or_true, true_or, and_self, false_or, or_false, reduceCtorEq, Bool.false_eq_true, and_false, false_and, eq_self, true_and, and_true, zero_ne, ↓br_lt_t, ↓br_lt_f, ↓br_eq_t, ↓br_eq_f, ↓br_lz_t, ↓br_lz_f, ↓br_ez_t, ↓br_ez_f, ↓br_gz_t, ↓br_gz_f, jw_id, jin_t, jix_t, ↓ite_t, ↓ite_f, MO.s0 hm, MO.s1 hm, MO.s2 hm, MO.s3 hm, MO.s4 hm, MO.s5 hm, MO.s6 hm, MO.s7 hm, MO.s8 hm, MO.s9 hm, MO.s10 hm, MO.s11 hm, MO.s12 hm, MO.s13 hm, MO.r1 hm, MO.r2 hm, MO.r3 hm, MO.r4 hm, MO.r5 hm, MO.r6 hm, MO.r7 hm, MO.r8 hm, MO.r9 hm, MO.r10 hm, MO.r11 hm, MO.r12 hm, MO.r13 hm, h3, c23]
end ACTSM
