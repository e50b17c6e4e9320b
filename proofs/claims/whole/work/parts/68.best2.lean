/-! The model: what is best. -/
section BESTM
variable {w u : jmW} {h : Nat} {H : Nat → Nat → Int} {r S q g : Nat → Int} {B : Int} {L : Int} {p al : Int}
theorem hold_in (hk : HOK H) (l1 : 0 ≤ L) (l2 : L ≤ 12) (s1 : ∀ k, k < 12 → 0 ≤ S k ∧ S k ≤ 3) (hp : p = -1 ∨ (1 ≤ p ∧ p ≤ 3)) (hal : (if 0 ≤ p then p else 0) = al) : ∀ (n : Nat) (i : Int) (x : gX) (z : gZ) (w : jmW) (B : Int), MF w 242 h H L S al x → exq x z → z.2.1 = 0 → ZB H B p z → B + n < 2147480000 → 0 ≤ i → i + n = 12 → ∃ x2 u, rn 271 (39, [(0, jvr 238), (1, .inl p), (2, .inl i)], [], w) = rn 271 (60, [(0, jvr 238), (1, .inl p), (2, .inl 12)], [], u) ∧ MF u 242 h H L S al x2 ∧ exq x2 (gFr H L S p n z) ∧ ZB H (B + n) p (gFr H L S p n z) ∧ Km 242 w u ∧ ∀ k, 33 ≤ k → mI u 238 k = mI w 238 k := by
  intro n
  induction n with
  | zero =>
    intro i x z w B m e hs hz hB i1 i2
    have e0 : i = 12 := by omega
    subst e0
    refine ⟨x, w, ?_, m, e, ?_, Km.rf _ _, fun _ _ => rfl⟩
    · rw [p271_39]
      simp (disch := omega) only [p271_0, p271_1, p271_2, p271_5, p271_6, p271_9n, p271_9s, p271_12, p271_13, p271_14, p271_17, p271_18, p271_19, p271_20, p271_21, p271_24, p271_25, p271_28, p271_29, p271_32, p271_33, p271_34, p271_37, p271_38, p271_40, p271_42, p271_45, p271_46, p271_47, p271_50, p271_51, p271_54, p271_57, p271_61, p271_64, p271_67, p271_68, p271_69, p271_72, p271_73, p271_76, p271_79, p271_80, p271_82, p271_85, jwd_c, jwd_0, Nat.reduceLeDiff, Nat.reduceEqDiff, Nat.reduceAdd, Nat.reduceSub, Nat.reduceMul, Int.reduceAdd, Int.reduceSub, Int.reduceMul, Int.reduceNeg, Int.reduceEq, Int.reduceLT, Int.reduceLE, jq_ldi_i, jq_ldl_l, jq_lda_a, jq_inc_i, jq_gs_t, jq_gsb_t, jq_gb_t, jq_gr_2, jq_gr_4, jq_gw_2, jq_s_t, jq_b_t, jg_c, jg_n, js_c, js_n, jrm_c, jrm_n, j2_i, j2_l, j2_a, jq_c_i, jq_c_l, jq_c_0, jq_c_n, jwd_le, jw_c0, mS_I, mS_R, mS_J, mN_I, mN_R, mN_J, mR_I, mI_R, mJ_I, mJ_R, mI_J, mR_J, ↓reduceIte, decide_true, or_true, true_or, and_self, false_or, or_false, reduceCtorEq, Bool.false_eq_true, and_false, false_and, eq_self, true_and, and_true, zero_ne, ↓br_lt_t, ↓br_lt_f, ↓br_eq_t, ↓br_eq_f, ↓br_lz_t, ↓br_lz_f, ↓br_ez_t, ↓br_ez_f, ↓br_gz_t, ↓br_gz_f, jw_id, jin_t, jix_t]
    · rw [show B + ((0 : Nat) : Int) = B by omega]
      exact hz
  | succ n ih =>
    intro i x z w B m e hs hz hB i1 i2
    have hm := m.1
    have al3 : 0 ≤ al ∧ al ≤ 3 := by
      rw [← hal]
      split <;> omega
    obtain ⟨w1, e1, m1, -, k1, k33⟩ := mF_beat m (Or.inr rfl) hk al3.1 al3.2 l1 l2 s1 (by rw [e.1]; exact hz.1) (by omega) (st := 0) (Or.inl rfl)
    have ex1 : exq (gBeat H L S al 0 x) (gF1 H L S p z) := e.step hal (Or.inr (by rw [hs]; rfl))
    obtain ⟨x2, u, e2, m2, ex2, z2, k2, k34⟩ := ih (i + 1) _ _ w1 (B + 1) m1 ex1 (f1_s hs) (f1_zb hk l2 s1 hz) (by omega) (by omega) (by omega)
    rw [show B + ((n + 1 : Nat) : Int) = B + 1 + n by omega]
    refine ⟨x2, u, ?_, m2, ex2, z2, k1.tr k2, fun k hk2 => (k34 k hk2).trans (k33 k hk2)⟩
    rw [← e2, p271_39]
    simp (disch := omega) only [p271_0, p271_1, p271_2, p271_5, p271_6, p271_9n, p271_9s, p271_12, p271_13, p271_14, p271_17, p271_18, p271_19, p271_20, p271_21, p271_24, p271_25, p271_28, p271_29, p271_32, p271_33, p271_34, p271_37, p271_38, p271_40, p271_42, p271_45, p271_46, p271_47, p271_50, p271_51, p271_54, p271_57, p271_61, p271_64, p271_67, p271_68, p271_69, p271_72, p271_73, p271_76, p271_79, p271_80, p271_82, p271_85, jwd_c, jwd_0, Nat.reduceLeDiff, Nat.reduceEqDiff, Nat.reduceAdd, Nat.reduceSub, Nat.reduceMul, Int.reduceAdd, Int.reduceSub, Int.reduceMul, Int.reduceNeg, Int.reduceEq, Int.reduceLT, Int.reduceLE, jq_ldi_i, jq_ldl_l, jq_lda_a, jq_inc_i, jq_gs_t, jq_gsb_t, jq_gb_t, jq_gr_2, jq_gr_4, jq_gw_2, jq_s_t, jq_b_t, jg_c, jg_n, js_c, js_n, jrm_c, jrm_n, j2_i, j2_l, j2_a, jq_c_i, jq_c_l, jq_c_0, jq_c_n, jwd_le, jw_c0, mS_I, mS_R, mS_J, mN_I, mN_R, mN_J, mR_I, mI_R, mJ_I, mJ_R, mI_J, mR_J, ↓reduceIte, decide_true, or_true, true_or, and_self, false_or, or_false, reduceCtorEq, Bool.false_eq_true, and_false, false_and, eq_self, true_and, and_true, zero_ne, ↓br_lt_t, ↓br_lt_f, ↓br_eq_t, ↓br_eq_f, ↓br_lz_t, ↓br_lz_f, ↓br_ez_t, ↓br_ez_f, ↓br_gz_t, ↓br_gz_f, jw_id, jin_t, jix_t, MO.s0 hm, MO.s1 hm, MO.s2 hm, MO.s3 hm, MO.s4 hm, MO.s5 hm, MO.s6 hm, MO.s7 hm, MO.s8 hm, MO.s9 hm, MO.s10 hm, MO.s11 hm, MO.s12 hm, MO.s13 hm, MO.r1 hm, MO.r2 hm, MO.r3 hm, MO.r4 hm, MO.r5 hm, MO.r6 hm, MO.r7 hm, MO.r8 hm, MO.r9 hm, MO.r10 hm, MO.r11 hm, MO.r12 hm, MO.r13 hm, e1]
theorem lead_in (hk : HOK H) (l1 : 0 ≤ L) (l2 : L ≤ 12) (s1 : ∀ k, k < 12 → 0 ≤ S k ∧ S k ≤ 3) (hp : p = -1 ∨ (1 ≤ p ∧ p ≤ 3)) (hal : (if 0 ≤ p then p else 0) = al) {t y2 y3 y4 y5 : Int} (t3 : t ≤ 100) : ∀ (n : Nat) (i : Int) (x : gX) (z : gZ) (w : jmW) (B : Int), MF w 242 h H L S al x → exq x z → z.2.1 = 0 → ZB H B p z → B + n < 2147480000 → 0 ≤ i → i + n = t → ∃ x2 u, rn 277 (65, [(0, jvr 238), (1, .inl t), (2, .inl y2), (3, .inl y3), (4, .inl y4), (5, .inl y5), (6, .inl i)], [], w) = rn 277 (86, [(0, jvr 238), (1, .inl t), (2, .inl y2), (3, .inl y3), (4, .inl y4), (5, .inl y5), (6, .inl t)], [], u) ∧ MF u 242 h H L S al x2 ∧ exq x2 (gFr H L S p n z) ∧ ZB H (B + n) p (gFr H L S p n z) ∧ Km 242 w u ∧ ∀ k, 33 ≤ k → mI u 238 k = mI w 238 k := by
  intro n
  induction n with
  | zero =>
    intro i x z w B m e hs hz hB i1 i2
    have e0 : i = t := by omega
    subst e0
    refine ⟨x, w, ?_, m, e, ?_, Km.rf _ _, fun _ _ => rfl⟩
    · rw [p277_65]
      simp (disch := omega) only [p277_0, p277_1, p277_2, p277_5, p277_6, p277_7, p277_10, p277_11, p277_12, p277_15, p277_16, p277_17, p277_20, p277_21, p277_22, p277_23, p277_24, p277_26, p277_27, p277_29, p277_31, p277_32, p277_35, p277_37, p277_38, p277_41, p277_44, p277_45, p277_48, p277_49, p277_52, p277_53, p277_56, p277_59, p277_61, p277_62, p277_63, p277_67, p277_68, p277_71, p277_72, p277_73, p277_76, p277_77, p277_80, p277_83, p277_87, p277_90, p277_93, p277_94, p277_96, p277_99, p277_102, p277_104, p277_105, p277_106, p277_109, p277_112, p277_113, p277_115, p277_118, p277_121, p277_122, p277_123, p277_126, jwd_c, jwd_0, Nat.reduceLeDiff, Nat.reduceEqDiff, Nat.reduceAdd, Nat.reduceSub, Nat.reduceMul, Int.reduceAdd, Int.reduceSub, Int.reduceMul, Int.reduceNeg, Int.reduceEq, Int.reduceLT, Int.reduceLE, jq_ldi_i, jq_ldl_l, jq_lda_a, jq_inc_i, jq_gs_t, jq_gsb_t, jq_gb_t, jq_gr_2, jq_gr_4, jq_gw_2, jq_s_t, jq_b_t, jg_c, jg_n, js_c, js_n, jrm_c, jrm_n, j2_i, j2_l, j2_a, jq_c_i, jq_c_l, jq_c_0, jq_c_n, jwd_le, jw_c0, mS_I, mS_R, mS_J, mN_I, mN_R, mN_J, mR_I, mI_R, mJ_I, mJ_R, mI_J, mR_J, ↓reduceIte, decide_true, or_true, true_or, and_self, false_or, or_false, reduceCtorEq, Bool.false_eq_true, and_false, false_and, eq_self, true_and, and_true, zero_ne, ↓br_lt_t, ↓br_lt_f, ↓br_eq_t, ↓br_eq_f, ↓br_lz_t, ↓br_lz_f, ↓br_ez_t, ↓br_ez_f, ↓br_gz_t, ↓br_gz_f, jw_id, jin_t, jix_t]
    · rw [show B + ((0 : Nat) : Int) = B by omega]
      exact hz
  | succ n ih =>
    intro i x z w B m e hs hz hB i1 i2
    have hm := m.1
    have al3 : 0 ≤ al ∧ al ≤ 3 := by
      rw [← hal]
      split <;> omega
    obtain ⟨w1, e1, m1, -, k1, k33⟩ := mF_beat m (Or.inr rfl) hk al3.1 al3.2 l1 l2 s1 (by rw [e.1]; exact hz.1) (by omega) (st := 0) (Or.inl rfl)
    have ex1 : exq (gBeat H L S al 0 x) (gF1 H L S p z) := e.step hal (Or.inr (by rw [hs]; rfl))
    obtain ⟨x2, u, e2, m2, ex2, z2, k2, k34⟩ := ih (i + 1) _ _ w1 (B + 1) m1 ex1 (f1_s hs) (f1_zb hk l2 s1 hz) (by omega) (by omega) (by omega)
    rw [show B + ((n + 1 : Nat) : Int) = B + 1 + n by omega]
    refine ⟨x2, u, ?_, m2, ex2, z2, k1.tr k2, fun k hk2 => (k34 k hk2).trans (k33 k hk2)⟩
    rw [← e2, p277_65]
    simp (disch := omega) only [p277_0, p277_1, p277_2, p277_5, p277_6, p277_7, p277_10, p277_11, p277_12, p277_15, p277_16, p277_17, p277_20, p277_21, p277_22, p277_23, p277_24, p277_26, p277_27, p277_29, p277_31, p277_32, p277_35, p277_37, p277_38, p277_41, p277_44, p277_45, p277_48, p277_49, p277_52, p277_53, p277_56, p277_59, p277_61, p277_62, p277_63, p277_67, p277_68, p277_71, p277_72, p277_73, p277_76, p277_77, p277_80, p277_83, p277_87, p277_90, p277_93, p277_94, p277_96, p277_99, p277_102, p277_104, p277_105, p277_106, p277_109, p277_112, p277_113, p277_115, p277_118, p277_121, p277_122, p277_123, p277_126, jwd_c, jwd_0, Nat.reduceLeDiff, Nat.reduceEqDiff, Nat.reduceAdd, Nat.reduceSub, Nat.reduceMul, Int.reduceAdd, Int.reduceSub, Int.reduceMul, Int.reduceNeg, Int.reduceEq, Int.reduceLT, Int.reduceLE, jq_ldi_i, jq_ldl_l, jq_lda_a, jq_inc_i, jq_gs_t, jq_gsb_t, jq_gb_t, jq_gr_2, jq_gr_4, jq_gw_2, jq_s_t, jq_b_t, jg_c, jg_n, js_c, js_n, jrm_c, jrm_n, j2_i, j2_l, j2_a, jq_c_i, jq_c_l, jq_c_0, jq_c_n, jwd_le, jw_c0, mS_I, mS_R, mS_J, mN_I, mN_R, mN_J, mR_I, mI_R, mJ_I, mJ_R, mI_J, mR_J, ↓reduceIte, decide_true, or_true, true_or, and_self, false_or, or_false, reduceCtorEq, Bool.false_eq_true, and_false, false_and, eq_self, true_and, and_true, zero_ne, ↓br_lt_t, ↓br_lt_f, ↓br_eq_t, ↓br_eq_f, ↓br_lz_t, ↓br_lz_f, ↓br_ez_t, ↓br_ez_f, ↓br_gz_t, ↓br_gz_f, jw_id, jin_t, jix_t, MO.s0 hm, MO.s1 hm, MO.s2 hm, MO.s3 hm, MO.s4 hm, MO.s5 hm, MO.s6 hm, MO.s7 hm, MO.s8 hm, MO.s9 hm, MO.s10 hm, MO.s11 hm, MO.s12 hm, MO.s13 hm, MO.r1 hm, MO.r2 hm, MO.r3 hm, MO.r4 hm, MO.r5 hm, MO.r6 hm, MO.r7 hm, MO.r8 hm, MO.r9 hm, MO.r10 hm, MO.r11 hm, MO.r12 hm, MO.r13 hm, e1]
theorem mean_in (hk : HOK H) (l1 : 0 ≤ L) (l2 : L ≤ 12) (s1 : ∀ k, k < 12 → 0 ≤ S k ∧ S k ≤ 3) (hp : p = -1 ∨ (1 ≤ p ∧ p ≤ 3)) (hal : (if 0 ≤ p then p else 0) = al) {t y1 y2 y4 y5 : Int} (t3 : t ≤ 100) : ∀ (n : Nat) (i : Int) (x : gX) (z : gZ) (w : jmW) (B : Int), MF w 242 h H L S al x → exq x z → z.2.1 = 0 → ZB H B p z → B + n < 2147480000 → 0 ≤ i → i + n = t → ∃ x2 u, rn 282 (94, [(0, jvr 238), (1, .inl y1), (2, .inl y2), (3, .inl t), (4, .inl y4), (5, .inl y5), (6, .inl i)], [], w) = rn 282 (115, [(0, jvr 238), (1, .inl y1), (2, .inl y2), (3, .inl t), (4, .inl y4), (5, .inl y5), (6, .inl t)], [], u) ∧ MF u 242 h H L S al x2 ∧ exq x2 (gFr H L S p n z) ∧ ZB H (B + n) p (gFr H L S p n z) ∧ Km 242 w u ∧ ∀ k, 33 ≤ k → mI u 238 k = mI w 238 k := by
  intro n
  induction n with
  | zero =>
    intro i x z w B m e hs hz hB i1 i2
    have e0 : i = t := by omega
    subst e0
    refine ⟨x, w, ?_, m, e, ?_, Km.rf _ _, fun _ _ => rfl⟩
    · rw [p282_94]
      simp (disch := omega) only [p282_0, p282_1, p282_2, p282_5, p282_6, p282_9n, p282_9s, p282_12, p282_13, p282_14, p282_17, p282_18, p282_19, p282_20, p282_23, p282_26, p282_29, p282_30, p282_31, p282_33, p282_36, p282_39, p282_40, p282_41, p282_43, p282_46, p282_49, p282_50, p282_51, p282_54, p282_55, p282_56, p282_58, p282_59, p282_61, p282_63, p282_64, p282_67, p282_68, p282_71, p282_72, p282_75, p282_76, p282_79, p282_82, p282_83, p282_85, p282_86, p282_89, p282_90, p282_91, p282_92, p282_96, p282_97, p282_100, p282_101, p282_102, p282_105, p282_106, p282_109, p282_112, p282_117, p282_118, p282_121, p282_124, p282_125, p282_126, p282_128, p282_131, p282_134, p282_135, p282_137, p282_140, jwd_c, jwd_0, Nat.reduceLeDiff, Nat.reduceEqDiff, Nat.reduceAdd, Nat.reduceSub, Nat.reduceMul, Int.reduceAdd, Int.reduceSub, Int.reduceMul, Int.reduceNeg, Int.reduceEq, Int.reduceLT, Int.reduceLE, jq_ldi_i, jq_ldl_l, jq_lda_a, jq_inc_i, jq_gs_t, jq_gsb_t, jq_gb_t, jq_gr_2, jq_gr_4, jq_gw_2, jq_s_t, jq_b_t, jg_c, jg_n, js_c, js_n, jrm_c, jrm_n, j2_i, j2_l, j2_a, jq_c_i, jq_c_l, jq_c_0, jq_c_n, jwd_le, jw_c0, mS_I, mS_R, mS_J, mN_I, mN_R, mN_J, mR_I, mI_R, mJ_I, mJ_R, mI_J, mR_J, ↓reduceIte, decide_true, or_true, true_or, and_self, false_or, or_false, reduceCtorEq, Bool.false_eq_true, and_false, false_and, eq_self, true_and, and_true, zero_ne, ↓br_lt_t, ↓br_lt_f, ↓br_eq_t, ↓br_eq_f, ↓br_lz_t, ↓br_lz_f, ↓br_ez_t, ↓br_ez_f, ↓br_gz_t, ↓br_gz_f, jw_id, jin_t, jix_t]
    · rw [show B + ((0 : Nat) : Int) = B by omega]
      exact hz
  | succ n ih =>
    intro i x z w B m e hs hz hB i1 i2
    have hm := m.1
    have al3 : 0 ≤ al ∧ al ≤ 3 := by
      rw [← hal]
      split <;> omega
    obtain ⟨w1, e1, m1, -, k1, k33⟩ := mF_beat m (Or.inr rfl) hk al3.1 al3.2 l1 l2 s1 (by rw [e.1]; exact hz.1) (by omega) (st := 0) (Or.inl rfl)
    have ex1 : exq (gBeat H L S al 0 x) (gF1 H L S p z) := e.step hal (Or.inr (by rw [hs]; rfl))
    obtain ⟨x2, u, e2, m2, ex2, z2, k2, k34⟩ := ih (i + 1) _ _ w1 (B + 1) m1 ex1 (f1_s hs) (f1_zb hk l2 s1 hz) (by omega) (by omega) (by omega)
    rw [show B + ((n + 1 : Nat) : Int) = B + 1 + n by omega]
    refine ⟨x2, u, ?_, m2, ex2, z2, k1.tr k2, fun k hk2 => (k34 k hk2).trans (k33 k hk2)⟩
    rw [← e2, p282_94]
    simp (disch := omega) only [p282_0, p282_1, p282_2, p282_5, p282_6, p282_9n, p282_9s, p282_12, p282_13, p282_14, p282_17, p282_18, p282_19, p282_20, p282_23, p282_26, p282_29, p282_30, p282_31, p282_33, p282_36, p282_39, p282_40, p282_41, p282_43, p282_46, p282_49, p282_50, p282_51, p282_54, p282_55, p282_56, p282_58, p282_59, p282_61, p282_63, p282_64, p282_67, p282_68, p282_71, p282_72, p282_75, p282_76, p282_79, p282_82, p282_83, p282_85, p282_86, p282_89, p282_90, p282_91, p282_92, p282_96, p282_97, p282_100, p282_101, p282_102, p282_105, p282_106, p282_109, p282_112, p282_117, p282_118, p282_121, p282_124, p282_125, p282_126, p282_128, p282_131, p282_134, p282_135, p282_137, p282_140, jwd_c, jwd_0, Nat.reduceLeDiff, Nat.reduceEqDiff, Nat.reduceAdd, Nat.reduceSub, Nat.reduceMul, Int.reduceAdd, Int.reduceSub, Int.reduceMul, Int.reduceNeg, Int.reduceEq, Int.reduceLT, Int.reduceLE, jq_ldi_i, jq_ldl_l, jq_lda_a, jq_inc_i, jq_gs_t, jq_gsb_t, jq_gb_t, jq_gr_2, jq_gr_4, jq_gw_2, jq_s_t, jq_b_t, jg_c, jg_n, js_c, js_n, jrm_c, jrm_n, j2_i, j2_l, j2_a, jq_c_i, jq_c_l, jq_c_0, jq_c_n, jwd_le, jw_c0, mS_I, mS_R, mS_J, mN_I, mN_R, mN_J, mR_I, mI_R, mJ_I, mJ_R, mI_J, mR_J, ↓reduceIte, decide_true, or_true, true_or, and_self, false_or, or_false, reduceCtorEq, Bool.false_eq_true, and_false, false_and, eq_self, true_and, and_true, zero_ne, ↓br_lt_t, ↓br_lt_f, ↓br_eq_t, ↓br_eq_f, ↓br_lz_t, ↓br_lz_f, ↓br_ez_t, ↓br_ez_f, ↓br_gz_t, ↓br_gz_f, jw_id, jin_t, jix_t, MO.s0 hm, MO.s1 hm, MO.s2 hm, MO.s3 hm, MO.s4 hm, MO.s5 hm, MO.s6 hm, MO.s7 hm, MO.s8 hm, MO.s9 hm, MO.s10 hm, MO.s11 hm, MO.s12 hm, MO.s13 hm, MO.r1 hm, MO.r2 hm, MO.r3 hm, MO.r4 hm, MO.r5 hm, MO.r6 hm, MO.r7 hm, MO.r8 hm, MO.r9 hm, MO.r10 hm, MO.r11 hm, MO.r12 hm, MO.r13 hm, e1]
theorem plan_in (hk : HOK H) (l1 : 0 ≤ L) (l2 : L ≤ 12) (s1 : ∀ k, k < 12 → 0 ≤ S k ∧ S k ≤ 3) (hp : p = -1 ∨ (1 ≤ p ∧ p ≤ 3)) (hal : (if 0 ≤ p then p else 0) = al) {t y2 : Int} (t3 : t ≤ 100) : ∀ (n : Nat) (i : Int) (x : gX) (z : gZ) (w : jmW) (B : Int), MF w 242 h H L S al x → exq x z → z.2.1 = 0 → ZB H B p z → B + n < 2147480000 → 0 ≤ i → i + n = t → ∃ x2 u, rn 280 (79, [(0, jvr 238), (1, .inl t), (2, .inl y2), (3, .inl i)], [], w) = rn 280 (99, [(0, jvr 238), (1, .inl t), (2, .inl y2), (3, .inl t)], [], u) ∧ MF u 242 h H L S al x2 ∧ exq x2 (gFr H L S p n z) ∧ ZB H (B + n) p (gFr H L S p n z) ∧ Km 242 w u ∧ ∀ k, 33 ≤ k → mI u 238 k = mI w 238 k := by
  intro n
  induction n with
  | zero =>
    intro i x z w B m e hs hz hB i1 i2
    have e0 : i = t := by omega
    subst e0
    refine ⟨x, w, ?_, m, e, ?_, Km.rf _ _, fun _ _ => rfl⟩
    · rw [p280_79]
      simp (disch := omega) only [p280_0, p280_1, p280_2, p280_5, p280_6, p280_7, p280_8, p280_9, p280_10, p280_11, p280_12, p280_13, p280_16, p280_17, p280_20, p280_21, p280_24, p280_25, p280_28, p280_31, p280_32, p280_33, p280_34, p280_37, p280_40, p280_41, p280_42, p280_43, p280_44, p280_47, p280_48, p280_49, p280_50, p280_51, p280_54, p280_55, p280_58, p280_59, p280_60, p280_61, p280_62, p280_63, p280_64, p280_65, p280_66, p280_67, p280_68, p280_69, p280_70, p280_71, p280_74, p280_77, p280_78, p280_80, p280_81, p280_84, p280_85, p280_86, p280_89, p280_90, p280_93, p280_96, p280_100, p280_103, p280_106, p280_107, p280_108, p280_111, p280_114, p280_117, p280_118, p280_119, p280_122, p280_125, p280_126, p280_129, p280_130, p280_131, p280_134, p280_137, p280_140, jwd_c, jwd_0, Nat.reduceLeDiff, Nat.reduceEqDiff, Nat.reduceAdd, Nat.reduceSub, Nat.reduceMul, Int.reduceAdd, Int.reduceSub, Int.reduceMul, Int.reduceNeg, Int.reduceEq, Int.reduceLT, Int.reduceLE, jq_ldi_i, jq_ldl_l, jq_lda_a, jq_inc_i, jq_gs_t, jq_gsb_t, jq_gb_t, jq_gr_2, jq_gr_4, jq_gw_2, jq_s_t, jq_b_t, jg_c, jg_n, js_c, js_n, jrm_c, jrm_n, j2_i, j2_l, j2_a, jq_c_i, jq_c_l, jq_c_0, jq_c_n, jwd_le, jw_c0, mS_I, mS_R, mS_J, mN_I, mN_R, mN_J, mR_I, mI_R, mJ_I, mJ_R, mI_J, mR_J, ↓reduceIte, decide_true, or_true, true_or, and_self, false_or, or_false, reduceCtorEq, Bool.false_eq_true, and_false, false_and, eq_self, true_and, and_true, zero_ne, ↓br_lt_t, ↓br_lt_f, ↓br_eq_t, ↓br_eq_f, ↓br_lz_t, ↓br_lz_f, ↓br_ez_t, ↓br_ez_f, ↓br_gz_t, ↓br_gz_f, jw_id, jin_t, jix_t]
    · rw [show B + ((0 : Nat) : Int) = B by omega]
      exact hz
  | succ n ih =>
    intro i x z w B m e hs hz hB i1 i2
    have hm := m.1
    have al3 : 0 ≤ al ∧ al ≤ 3 := by
      rw [← hal]
      split <;> omega
    obtain ⟨w1, e1, m1, -, k1, k33⟩ := mF_beat m (Or.inr rfl) hk al3.1 al3.2 l1 l2 s1 (by rw [e.1]; exact hz.1) (by omega) (st := 0) (Or.inl rfl)
    have ex1 : exq (gBeat H L S al 0 x) (gF1 H L S p z) := e.step hal (Or.inr (by rw [hs]; rfl))
    obtain ⟨x2, u, e2, m2, ex2, z2, k2, k34⟩ := ih (i + 1) _ _ w1 (B + 1) m1 ex1 (f1_s hs) (f1_zb hk l2 s1 hz) (by omega) (by omega) (by omega)
    rw [show B + ((n + 1 : Nat) : Int) = B + 1 + n by omega]
    refine ⟨x2, u, ?_, m2, ex2, z2, k1.tr k2, fun k hk2 => (k34 k hk2).trans (k33 k hk2)⟩
    rw [← e2, p280_79]
    simp (disch := omega) only [p280_0, p280_1, p280_2, p280_5, p280_6, p280_7, p280_8, p280_9, p280_10, p280_11, p280_12, p280_13, p280_16, p280_17, p280_20, p280_21, p280_24, p280_25, p280_28, p280_31, p280_32, p280_33, p280_34, p280_37, p280_40, p280_41, p280_42, p280_43, p280_44, p280_47, p280_48, p280_49, p280_50, p280_51, p280_54, p280_55, p280_58, p280_59, p280_60, p280_61, p280_62, p280_63, p280_64, p280_65, p280_66, p280_67, p280_68, p280_69, p280_70, p280_71, p280_74, p280_77, p280_78, p280_80, p280_81, p280_84, p280_85, p280_86, p280_89, p280_90, p280_93, p280_96, p280_100, p280_103, p280_106, p280_107, p280_108, p280_111, p280_114, p280_117, p280_118, p280_119, p280_122, p280_125, p280_126, p280_129, p280_130, p280_131, p280_134, p280_137, p280_140, jwd_c, jwd_0, Nat.reduceLeDiff, Nat.reduceEqDiff, Nat.reduceAdd, Nat.reduceSub, Nat.reduceMul, Int.reduceAdd, Int.reduceSub, Int.reduceMul, Int.reduceNeg, Int.reduceEq, Int.reduceLT, Int.reduceLE, jq_ldi_i, jq_ldl_l, jq_lda_a, jq_inc_i, jq_gs_t, jq_gsb_t, jq_gb_t, jq_gr_2, jq_gr_4, jq_gw_2, jq_s_t, jq_b_t, jg_c, jg_n, js_c, js_n, jrm_c, jrm_n, j2_i, j2_l, j2_a, jq_c_i, jq_c_l, jq_c_0, jq_c_n, jwd_le, jw_c0, mS_I, mS_R, mS_J, mN_I, mN_R, mN_J, mR_I, mI_R, mJ_I, mJ_R, mI_J, mR_J, ↓reduceIte, decide_true, or_true, true_or, and_self, false_or, or_false, reduceCtorEq, Bool.false_eq_true, and_false, false_and, eq_self, true_and, and_true, zero_ne, ↓br_lt_t, ↓br_lt_f, ↓br_eq_t, ↓br_eq_f, ↓br_lz_t, ↓br_lz_f, ↓br_ez_t, ↓br_ez_f, ↓br_gz_t, ↓br_gz_f, jw_id, jin_t, jix_t, MO.s0 hm, MO.s1 hm, MO.s2 hm, MO.s3 hm, MO.s4 hm, MO.s5 hm, MO.s6 hm, MO.s7 hm, MO.s8 hm, MO.s9 hm, MO.s10 hm, MO.s11 hm, MO.s12 hm, MO.s13 hm, MO.r1 hm, MO.r2 hm, MO.r3 hm, MO.r4 hm, MO.r5 hm, MO.r6 hm, MO.r7 hm, MO.r8 hm, MO.r9 hm, MO.r10 hm, MO.r11 hm, MO.r12 hm, MO.r13 hm, e1]
theorem fU.again (hu : fU w H S q g) (k : Km 242 w u) (a1 : ∀ k, 298 ≤ k → mI u 242 k = q k) (a2 : ∀ k, 128 ≤ k → mI u 248 k = g k) (a3 : ∀ k, 12 ≤ k → mI u 247 k = S k) : fU u H S q g := by
  obtain ⟨h1, h2, h3⟩ := hu
  have e : mI u 241 = mI w 241 := k.1.Iq (by omega)
  refine ⟨?_, ?_, ?_⟩
  · funext j
    unfold gCp
    by_cases z : j < 298
    · rw [if_pos z, e, h1]
      exact if_pos z
    · rw [if_neg z, a1 j (by omega)]
  · funext j
    unfold gS1
    by_cases z : j < 12
    · rw [if_pos z, h2]
      exact if_pos z
    · rw [if_neg z, a3 j (by omega)]
  · funext j
    unfold gG0
    by_cases z : j < 128
    · rw [if_pos z, h3]
      exact if_pos z
    · rw [if_neg z, a2 j (by omega)]
theorem mF_beg (hq : MQh w h H) (hu : fU w H S q g) : rn 236 (0, [(0, jvr 238)], [], w) = some (none, setA w 242 q) ∧ ∃ u, rn 237 (0, [(0, jvr 238)], [], setA w 242 q) = some (none, u) ∧ MF u 242 h H (H 0 6) S 0 (q, g, 0, 0, -1) ∧ Km 242 w u ∧ ∀ k, 33 ≤ k → mI u 238 k = mI w 238 k := by
  obtain ⟨u1, u2, u3⟩ := hu
  obtain ⟨hm, hh, h3⟩ := hq
  have k1 : Km 242 w (setA w 242 q) := Km.A (Or.inl rfl) (by omega)
  have hq2 : MQh (setA w 242 q) h H := MQh.km ⟨hm, hh, h3⟩ k1 (by omega)
  obtain ⟨u, e, m, k⟩ := mF_plain hq2 (Or.inr rfl) (-1)
  have e2 := m_plain hq2.1 hq2.2.1 hq2.2.2
  have c := m_copies hm
  rw [← u1] at c
  refine ⟨c, u, e, ?_, k1.tr k, ?_⟩
  · rw [mI_nA (b := 247) (by omega), mI_nA (b := 248) (by omega), mI_A, ← u2, ← u3] at m
    exact m
  · intro j hj
    rw [e] at e2
    have e3 : u = _ := (Prod.mk.inj (Option.some.inj e2)).2
    rw [e3, mI_nA (by omega), mI_nA (by omega), mI_A, up1_n (by omega), up1_n (by omega), up1_n (by omega), up1_n (by omega), mI_nA (by omega)]
theorem f1_o (hk : HOK H) (l2 : L ≤ 12) (s1 : ∀ k, k < 12 → 0 ≤ S k ∧ S k ≤ 3) {z : gZ} (hz : ZB H B p z) : (gF1 H L S p z).1.2.2.1 ≤ z.1.2.2.1 + 16 := by
  obtain ⟨ri, z2, z3, z4, z5⟩ := hz
  by_cases q1 : 0 < gOver z.1.1
  · rw [f1_over q1]
    show z.1.2.2.1 ≤ z.1.2.2.1 + 16
    omega
  · rw [f1_go q1 rfl rfl]
    have bo := beat_ok (H := H) (L := L) (S := S) hk l2 s1 (al := if 0 ≤ p then p else 0) (st := if 0 < z.2.1 then 1 else 0) (o := z.1.2.2.1) (j := z.1.2.2.2.1) (tn := z.1.2.2.2.2) (g := z.1.2.1) (by split <;> omega) (by split <;> omega) ri
    exact bo.2.2.1
theorem fr_o (hk : HOK H) (l2 : L ≤ 12) (s1 : ∀ k, k < 12 → 0 ≤ S k ∧ S k ≤ 3) : ∀ (n : Nat) (z : gZ) (B : Int), ZB H B p z → (gFr H L S p n z).1.2.2.1 ≤ z.1.2.2.1 + 16 * n := by
  intro n
  induction n with
  | zero =>
    intro z B hz
    have e : gFr H L S p 0 z = z := rfl
    rw [e]
    omega
  | succ n ih =>
    intro z B hz
    have a1 := f1_o hk l2 s1 hz
    have a2 := ih _ _ (f1_zb hk l2 s1 hz)
    have e : gFr H L S p (n + 1) z = gFr H L S p n (gF1 H L S p z) := rfl
    rw [e]
    omega
/-- all stays for the next try -/
theorem fU.nx (hu : fU w H S q g) (b : fB H r S q g B) {L : Int} {S2 : Nat → Int} {x : gX} {z0 : gZ} {n : Nat} {q2 : Nat → Int} (l2 : L ≤ 12) (s1 : ∀ k, k < 12 → 0 ≤ S2 k ∧ S2 k ≤ 3) (m : MF u 242 h H L S2 al x) (e : exq x (gFr H L S2 p n z0)) (z1 : z0.1.1 = q2) (z2 : z0.1.2.1 = g) (hz : ZB H B p z0) (hq2 : ∀ k, 298 ≤ k → q2 k = q k) (hS2 : ∀ k, 12 ≤ k → S2 k = S k) (k : Km 242 w u) : fU u H S q g := by
  have hi := fr_hi b.1 l2 s1 n z0 B hz
  refine hu.again k (fun j hj => ?_) (fun j hj => ?_) (fun j hj => ?_)
  · rw [m.2.2.2.1, e.1, hi.1 j hj, z1, hq2 j hj]
  · rw [m.2.2.2.2.1, e.2.1, hi.2.1 j hj, z2]
  · rw [m.2.2.2.2.2.2.2.2.2, hS2 j hj]
def t1p (k : Nat) (t : jmL) : Prop := t = [] ∨ ∃ x : Int, t = [(k, .inl x)]
theorem t1p_js {k : Nat} {t : jmL} (h : t1p k t) (v : Int) : js t k (.inl v) = [(k, .inl v)] := by
  rcases h with rfl | ⟨x, rfl⟩
  · rfl
  · rw [js_c, if_pos rfl]
    rfl
theorem mhold_lp (b : fB H r S q g B) : ∀ (n : Nat) (t2 : jmL) (w : jmW), n ≤ 3 → MQh w h H → fU w H S q g → t1p 2 t2 → ∃ u, rn 271 (20, (0, jvr 238) :: (1, .inl n) :: t2, [], w) = some (some (.inl (gHo H S q g n)), setI (setI u 238 1 0) 238 2 (-1)) ∧ Km 242 w u := by
  have k6 := b.1.2.1
  intro n
  induction n with
  | zero =>
    intro t2 w hn hq hu ht
    have hm := hq.1
    have e : gHo H S q g 0 = -2 := rfl
    refine ⟨w, ?_, Km.rf _ _⟩
    rw [e, p271_20]
    simp (disch := omega) only [p271_0, p271_1, p271_2, p271_5, p271_6, p271_9n, p271_9s, p271_12, p271_13, p271_14, p271_17, p271_18, p271_19, p271_21, p271_24, p271_25, p271_28, p271_29, p271_32, p271_33, p271_34, p271_37, p271_38, p271_40, p271_42, p271_45, p271_46, p271_47, p271_50, p271_51, p271_54, p271_57, p271_61, p271_64, p271_67, p271_68, p271_69, p271_72, p271_73, p271_76, p271_79, p271_80, p271_82, p271_85, p213_0, p213_1, p213_2, p213_5, p213_6, p213_7, p213_10, p213_11, p176_0, p176_1, p176_2, p176_5, p176_6, p176_7, p176_10, p176_11, jwd_c, jwd_0, Nat.reduceLeDiff, Nat.reduceEqDiff, Nat.reduceAdd, Nat.reduceSub, Nat.reduceMul, Int.reduceAdd, Int.reduceSub, Int.reduceMul, Int.reduceNeg, Int.reduceEq, Int.reduceLT, Int.reduceLE, jq_ldi_i, jq_ldl_l, jq_lda_a, jq_inc_i, jq_gs_t, jq_gsb_t, jq_gb_t, jq_gr_2, jq_gr_4, jq_gw_2, jq_s_t, jq_b_t, jg_c, jg_n, js_c, js_n, jrm_c, jrm_n, j2_i, j2_l, j2_a, jq_c_i, jq_c_l, jq_c_0, jq_c_n, jwd_le, jw_c0, mS_I, mS_R, mS_J, mN_I, mN_R, mN_J, mR_I, mI_R, mJ_I, mJ_R, mI_J, mR_J, ↓reduceIte, decide_true, or_true, true_or, and_self, false_or, or_false, reduceCtorEq, Bool.false_eq_true, and_false, false_and, eq_self, true_and, and_true, zero_ne, ↓br_lt_t, ↓br_lt_f, ↓br_eq_t, ↓br_eq_f, ↓br_lz_t, ↓br_lz_f, ↓br_ez_t, ↓br_ez_f, ↓br_gz_t, ↓br_gz_f, jw_id, jin_t, jix_t, MO.s0 hm, MO.s1 hm, MO.s2 hm, MO.s3 hm, MO.s4 hm, MO.s5 hm, MO.s6 hm, MO.s7 hm, MO.s8 hm, MO.s9 hm, MO.s10 hm, MO.s11 hm, MO.s12 hm, MO.s13 hm, MO.r1 hm, MO.r2 hm, MO.r3 hm, MO.r4 hm, MO.r5 hm, MO.r6 hm, MO.r7 hm, MO.r8 hm, MO.r9 hm, MO.r10 hm, MO.r11 hm, MO.r12 hm, MO.r13 hm]
  | succ n ih =>
    intro t2 w hn hq hu ht
    have hm := hq.1
    generalize hp : ((n + 1 : Nat) : Int) = p at *
    have e : gHo H S q g (n + 1) = if (gFr H (H 0 6) S p 12 (gZ0 q g)).2.2.2.1 < 0 then p else gHo H S q g n := by rw [← hp]; rfl
    obtain ⟨e1, w1, e2, m1, k1, -⟩ := mF_beg hq hu
    have hm1 := m1.1
    have m2 : MF (setI w1 238 26 p) 242 h H (H 0 6) S p (q, g, 0, 0, -1) := by
      obtain ⟨a1, a2, a3, a4, a5, a6, a7, a8, a9, a10⟩ := m1
      exact ⟨a1.frR rfl rfl, a2.frF (Fr.I (P := fun b => b = 238) rfl) (fun b hb => by omega), a3, by rw [mI_nb (by omega)]; exact a4, by rw [mI_nb (by omega)]; exact a5, by rw [mI_nk (by omega)]; exact a6, by rw [mI_nk (by omega)]; exact a7, by rw [mI_nk (by omega)]; exact a8, mI_s _ _ _ _, by rw [mI_nb (by omega)]; exact a10⟩
    have k2 : Km 242 w1 (setI w1 238 26 p) := Km.I (by omega)
    have zb := zb0 (p := p) (g := g) b.i b.2.2.2.1.1 (Or.inr ⟨by omega, by omega⟩)
    obtain ⟨x2, w3, e3, m3, ex3, zb3, k3, -⟩ := hold_in (p := p) (al := p) b.1 (by omega) (by omega) b.s1 (Or.inr ⟨by omega, by omega⟩) (if_pos (by omega)) 12 0 _ (gZ0 q g) _ B m2 ⟨rfl, rfl, rfl, rfl⟩ rfl zb (by have := b.2.2.2.1; omega) (by omega) (by omega)
    have kA := (k1.tr k2).tr k3
    have hu3 := hu.nx b (by omega) b.s1 m3 ex3 rfl rfl zb (fun _ _ => rfl) (fun _ _ => rfl) kA
    have hi := (fr_hi (p := p) b.1 (L := H 0 6) (by omega) b.s1 12 (gZ0 q g) B zb).2.2 (Int.le_refl _) ⟨fun _ => rfl, fun _ => by show (-2 : Int) < 0; omega⟩
    have ho := fr_o (p := p) b.1 (L := H 0 6) (by omega) b.s1 12 (gZ0 q g) B zb
    have ho2 : (gFr H (H 0 6) S p 12 (gZ0 q g)).1.2.2.1 ≤ 192 := by
      have : (gZ0 q g).1.2.2.1 = 0 := rfl
      omega
    have m6 := m3.2.2.2.2.2.1
    rw [ex3.2.2.1] at m6
    have hm3 := m3.1
    have j3 := t1p_js ht
    have zt := zb3.2.2.2.2
    have b4 := b.2.2.2.1
    rw [e]
    generalize gFr H (H 0 6) S p 12 (gZ0 q g) = z at *
    have z2 : mS (setA w 242 q) 238 = (1, 9, 0) := hm.s0
    have hd : rn 271 (20, (0, jvr 238) :: (1, .inl p) :: t2, [], w) = rn 271 (60, [(0, jvr 238), (1, .inl p), (2, .inl 12)], [], w3) := by
      rw [← e3, p271_20]
      simp (disch := omega) only [p271_0, p271_1, p271_2, p271_5, p271_6, p271_9n, p271_9s, p271_12, p271_13, p271_14, p271_17, p271_18, p271_19, p271_21, p271_24, p271_25, p271_28, p271_29, p271_32, p271_33, p271_34, p271_37, p271_38, p271_40, p271_42, p271_45, p271_46, p271_47, p271_50, p271_51, p271_54, p271_57, p271_61, p271_64, p271_67, p271_68, p271_69, p271_72, p271_73, p271_76, p271_79, p271_80, p271_82, p271_85, jwd_c, jwd_0, Nat.reduceLeDiff, Nat.reduceEqDiff, Nat.reduceAdd, Nat.reduceSub, Nat.reduceMul, Int.reduceAdd, Int.reduceSub, Int.reduceMul, Int.reduceNeg, Int.reduceEq, Int.reduceLT, Int.reduceLE, jq_ldi_i, jq_ldl_l, jq_lda_a, jq_inc_i, jq_gs_t, jq_gsb_t, jq_gb_t, jq_gr_2, jq_gr_4, jq_gw_2, jq_s_t, jq_b_t, jg_c, jg_n, js_c, js_n, jrm_c, jrm_n, j2_i, j2_l, j2_a, jq_c_i, jq_c_l, jq_c_0, jq_c_n, jwd_le, jw_c0, mS_I, mS_R, mS_J, mN_I, mN_R, mN_J, mR_I, mI_R, mJ_I, mJ_R, mI_J, mR_J, ↓reduceIte, decide_true, or_true, true_or, and_self, false_or, or_false, reduceCtorEq, Bool.false_eq_true, and_false, false_and, eq_self, true_and, and_true, zero_ne, ↓br_lt_t, ↓br_lt_f, ↓br_eq_t, ↓br_eq_f, ↓br_lz_t, ↓br_lz_f, ↓br_ez_t, ↓br_ez_f, ↓br_gz_t, ↓br_gz_f, jw_id, jin_t, jix_t, MO.s0 hm, MO.s1 hm, MO.s2 hm, MO.s3 hm, MO.s4 hm, MO.s5 hm, MO.s6 hm, MO.s7 hm, MO.s8 hm, MO.s9 hm, MO.s10 hm, MO.s11 hm, MO.s12 hm, MO.s13 hm, MO.r1 hm, MO.r2 hm, MO.r3 hm, MO.r4 hm, MO.r5 hm, MO.r6 hm, MO.r7 hm, MO.r8 hm, MO.r9 hm, MO.r10 hm, MO.r11 hm, MO.r12 hm, MO.r13 hm, e1, z2, e2, MO.s0 hm1, j3]
    rw [hd]
    by_cases q1 : z.2.2.2.1 < 0
    · have o0 := hi.2.mp q1
      rw [if_pos q1]
      refine ⟨w3, ?_, kA⟩
      rw [p271_60]
      simp (disch := omega) only [p271_0, p271_1, p271_2, p271_5, p271_6, p271_9n, p271_9s, p271_12, p271_13, p271_14, p271_17, p271_18, p271_19, p271_21, p271_24, p271_25, p271_28, p271_29, p271_32, p271_33, p271_34, p271_37, p271_38, p271_40, p271_42, p271_45, p271_46, p271_47, p271_50, p271_51, p271_54, p271_57, p271_61, p271_64, p271_67, p271_68, p271_69, p271_72, p271_73, p271_76, p271_79, p271_80, p271_82, p271_85, p213_0, p213_1, p213_2, p213_5, p213_6, p213_7, p213_10, p213_11, p176_0, p176_1, p176_2, p176_5, p176_6, p176_7, p176_10, p176_11, jwd_c, jwd_0, Nat.reduceLeDiff, Nat.reduceEqDiff, Nat.reduceAdd, Nat.reduceSub, Nat.reduceMul, Int.reduceAdd, Int.reduceSub, Int.reduceMul, Int.reduceNeg, Int.reduceEq, Int.reduceLT, Int.reduceLE, jq_ldi_i, jq_ldl_l, jq_lda_a, jq_inc_i, jq_gs_t, jq_gsb_t, jq_gb_t, jq_gr_2, jq_gr_4, jq_gw_2, jq_s_t, jq_b_t, jg_c, jg_n, js_c, js_n, jrm_c, jrm_n, j2_i, j2_l, j2_a, jq_c_i, jq_c_l, jq_c_0, jq_c_n, jwd_le, jw_c0, mS_I, mS_R, mS_J, mN_I, mN_R, mN_J, mR_I, mI_R, mJ_I, mJ_R, mI_J, mR_J, ↓reduceIte, decide_true, or_true, true_or, and_self, false_or, or_false, reduceCtorEq, Bool.false_eq_true, and_false, false_and, eq_self, true_and, and_true, zero_ne, ↓br_lt_t, ↓br_lt_f, ↓br_eq_t, ↓br_eq_f, ↓br_lz_t, ↓br_lz_f, ↓br_ez_t, ↓br_ez_f, ↓br_gz_t, ↓br_gz_f, jw_id, jin_t, jix_t, MO.s0 hm3, m6]
    · have o0 : ¬ z.1.2.2.1 = 0 := fun y => q1 (hi.2.mpr y)
      rw [if_neg q1]
      obtain ⟨u, e5, k5⟩ := ih [(2, .inl 12)] w3 (by omega) m3.mq hu3 (Or.inr ⟨_, rfl⟩)
      refine ⟨u, ?_, kA.tr k5⟩
      rw [← e5, p271_60]
      simp (disch := omega) only [p271_0, p271_1, p271_2, p271_5, p271_6, p271_9n, p271_9s, p271_12, p271_13, p271_14, p271_17, p271_18, p271_19, p271_21, p271_24, p271_25, p271_28, p271_29, p271_32, p271_33, p271_34, p271_37, p271_38, p271_40, p271_42, p271_45, p271_46, p271_47, p271_50, p271_51, p271_54, p271_57, p271_61, p271_64, p271_67, p271_68, p271_69, p271_72, p271_73, p271_76, p271_79, p271_80, p271_82, p271_85, jwd_c, jwd_0, Nat.reduceLeDiff, Nat.reduceEqDiff, Nat.reduceAdd, Nat.reduceSub, Nat.reduceMul, Int.reduceAdd, Int.reduceSub, Int.reduceMul, Int.reduceNeg, Int.reduceEq, Int.reduceLT, Int.reduceLE, jq_ldi_i, jq_ldl_l, jq_lda_a, jq_inc_i, jq_gs_t, jq_gsb_t, jq_gb_t, jq_gr_2, jq_gr_4, jq_gw_2, jq_s_t, jq_b_t, jg_c, jg_n, js_c, js_n, jrm_c, jrm_n, j2_i, j2_l, j2_a, jq_c_i, jq_c_l, jq_c_0, jq_c_n, jwd_le, jw_c0, mS_I, mS_R, mS_J, mN_I, mN_R, mN_J, mR_I, mI_R, mJ_I, mJ_R, mI_J, mR_J, ↓reduceIte, decide_true, or_true, true_or, and_self, false_or, or_false, reduceCtorEq, Bool.false_eq_true, and_false, false_and, eq_self, true_and, and_true, zero_ne, ↓br_lt_t, ↓br_lt_f, ↓br_eq_t, ↓br_eq_f, ↓br_lz_t, ↓br_lz_f, ↓br_ez_t, ↓br_ez_f, ↓br_gz_t, ↓br_gz_f, jw_id, jin_t, jix_t, MO.s0 hm3, m6]
      rw [show p + -1 = ((n : Nat) : Int) by omega]
theorem d_holds (hq : MQh w h H) (hv : mI w 241 = r) (b : fB H r S q g B) (hu : fU w H S q g) : ∃ u, rn 271 (0, [(0, jvr 238)], [], w) = some (some (.inl (gHo H S q g 3)), u) ∧ qM w u 0 := by
  have hs0 := hq.1.s0
  have hq0 : MQh (setI w 238 0 0) h H := hq.z
  have hv0 : mI (setI w 238 0 0) 241 = r := (mI_nb (by omega)).trans hv
  have e00 : rn 271 (0, [(0, jvr 238)], [], w) = rn 271 (5, [(0, jvr 238)], [], setI w 238 0 0) := by
    simp only [p271_0, p271_1, p271_2, jwd_c, jwd_0, Nat.reduceLeDiff, Nat.reduceEqDiff, Nat.reduceAdd, Nat.reduceSub, Nat.reduceMul, Int.reduceAdd, Int.reduceSub, Int.reduceMul, Int.reduceNeg, Int.reduceEq, Int.reduceLT, Int.reduceLE, jq_ldi_i, jq_ldl_l, jq_lda_a, jq_inc_i, jq_gs_t, jq_gsb_t, jq_gb_t, jq_gr_2, jq_gr_4, jq_gw_2, jq_s_t, jq_b_t, jg_c, jg_n, js_c, js_n, jrm_c, jrm_n, j2_i, j2_l, j2_a, jq_c_i, jq_c_l, jq_c_0, jq_c_n, jwd_le, jw_c0, mS_I, mS_R, mS_J, mN_I, mN_R, mN_J, mR_I, mI_R, mJ_I, mJ_R, mI_J, mR_J, ↓reduceIte, decide_true, or_true, true_or, and_self, false_or, or_false, reduceCtorEq, Bool.false_eq_true, and_false, false_and, eq_self, true_and, and_true, zero_ne, hs0]
  rw [e00]
  clear e00
  generalize hw0 : setI w 238 0 0 = w0 at *
  have hq1 := hq0
  obtain ⟨hm, hh, h3⟩ := hq0
  have hge := hh.ge
  obtain ⟨u, e, k⟩ := mhold_lp b 3 [] w0 (by omega) hq1 (hu.z hw0) (Or.inl rfl)
  refine ⟨_, ?_, qM.fut hw0 k⟩
  rw [← e]
  simp (disch := omega) only [p271_0, p271_1, p271_2, p271_5, p271_6, p271_9n, p271_9s, p271_12, p271_13, p271_14, p271_17, p271_18, p271_19, p271_21, p271_24, p271_25, p271_28, p271_29, p271_32, p271_33, p271_34, p271_37, p271_38, p271_40, p271_42, p271_45, p271_46, p271_47, p271_50, p271_51, p271_54, p271_57, p271_61, p271_64, p271_67, p271_68, p271_69, p271_72, p271_73, p271_76, p271_79, p271_80, p271_82, p271_85, p213_0, p213_1, p213_2, p213_5, p213_6, p213_7, p213_10, p213_11, p176_0, p176_1, p176_2, p176_5, p176_6, p176_7, p176_10, p176_11, jwd_c, jwd_0, Nat.reduceLeDiff, Nat.reduceEqDiff, Nat.reduceAdd, Nat.reduceSub, Nat.reduceMul, Int.reduceAdd, Int.reduceSub, Int.reduceMul, Int.reduceNeg, Int.reduceEq, Int.reduceLT, Int.reduceLE, jq_ldi_i, jq_ldl_l, jq_lda_a, jq_inc_i, jq_gs_t, jq_gsb_t, jq_gb_t, jq_gr_2, jq_gr_4, jq_gw_2, jq_s_t, jq_b_t, jg_c, jg_n, js_c, js_n, jrm_c, jrm_n, j2_i, j2_l, j2_a, jq_c_i, jq_c_l, jq_c_0, jq_c_n, jwd_le, jw_c0, mS_I, mS_R, mS_J, mN_I, mN_R, mN_J, mR_I, mI_R, mJ_I, mJ_R, mI_J, mR_J, ↓reduceIte, decide_true, or_true, true_or, and_self, false_or, or_false, reduceCtorEq, Bool.false_eq_true, and_false, false_and, eq_self, true_and, and_true, zero_ne, ↓br_lt_t, ↓br_lt_f, ↓br_eq_t, ↓br_eq_f, ↓br_lz_t, ↓br_lz_f, ↓br_ez_t, ↓br_ez_f, ↓br_gz_t, ↓br_gz_f, jw_id, jin_t, jix_t, MO.s0 hm, MO.s1 hm, MO.s2 hm, MO.s3 hm, MO.s4 hm, MO.s5 hm, MO.s6 hm, MO.s7 hm, MO.s8 hm, MO.s9 hm, MO.s10 hm, MO.s11 hm, MO.s12 hm, MO.s13 hm, MO.r1 hm, MO.r2 hm, MO.r3 hm, MO.r4 hm, MO.r5 hm, MO.r6 hm, MO.r7 hm, MO.r8 hm, MO.r9 hm, MO.r10 hm, MO.r11 hm, MO.r12 hm, MO.r13 hm, h3]
  rfl
theorem MF.row (m : MF w 242 h H L S al (q, g, 0, 0, -1)) {k : Nat} {x : Int} : MF (setI w 242 k x) 242 h H L S al (up1 q k x, g, 0, 0, -1) := by
  obtain ⟨a1, a2, a3, a4, a5, a6, a7, a8, a9, a10⟩ := m
  refine ⟨a1.frR rfl rfl, a2.frF (Fr.I (P := fun b => b = 242) rfl) (fun b hb => by omega), a3, ?_, by rw [mI_nb (by omega)]; exact a5, by rw [mI_nb (by omega)]; exact a6, by rw [mI_nb (by omega)]; exact a7, by rw [mI_nb (by omega)]; exact a8, by rw [mI_nb (by omega)]; exact a9, by rw [mI_nb (by omega)]; exact a10⟩
  rw [setI_A, mI_A, a4]
theorem mlead_lp (b : fB H r S q g B) {t y : Int} (t1 : 0 ≤ t) (t2 : t ≤ 40) : ∀ (n : Nat) (l bs m : Int) (tl : jmL) (w : jmW), 0 ≤ l → l + n = 5 → -1 ≤ m → m ≤ 16 → MQh w h H → fU w H S q g → t1p 6 tl → ∃ u, rn 277 (29, (0, jvr 238) :: (1, .inl t) :: (2, .inl y) :: (3, .inl bs) :: (4, .inl m) :: (5, .inl l) :: tl, [], w) = some (some (.inl (gLd H S q g t n l bs m)), setI (setI u 238 1 0) 238 2 (-1)) ∧ Km 242 w u := by
  have k6 := b.1.2.1
  intro n
  induction n with
  | zero =>
    intro l bs m tl w l1 l2 m1 m2 hq hu ht
    have hm := hq.1
    have e : gLd H S q g t 0 l bs m = bs := rfl
    refine ⟨w, ?_, Km.rf _ _⟩
    rw [e, p277_29]
    simp (disch := omega) only [p277_0, p277_1, p277_2, p277_5, p277_6, p277_7, p277_10, p277_11, p277_12, p277_15, p277_16, p277_17, p277_20, p277_21, p277_22, p277_23, p277_24, p277_26, p277_27, p277_31, p277_32, p277_35, p277_37, p277_38, p277_41, p277_44, p277_45, p277_48, p277_49, p277_52, p277_53, p277_56, p277_59, p277_61, p277_62, p277_63, p277_67, p277_68, p277_71, p277_72, p277_73, p277_76, p277_77, p277_80, p277_83, p277_87, p277_90, p277_93, p277_94, p277_96, p277_99, p277_102, p277_104, p277_105, p277_106, p277_109, p277_112, p277_113, p277_115, p277_118, p277_121, p277_122, p277_123, p277_126, p213_0, p213_1, p213_2, p213_5, p213_6, p213_7, p213_10, p213_11, p176_0, p176_1, p176_2, p176_5, p176_6, p176_7, p176_10, p176_11, jwd_c, jwd_0, Nat.reduceLeDiff, Nat.reduceEqDiff, Nat.reduceAdd, Nat.reduceSub, Nat.reduceMul, Int.reduceAdd, Int.reduceSub, Int.reduceMul, Int.reduceNeg, Int.reduceEq, Int.reduceLT, Int.reduceLE, jq_ldi_i, jq_ldl_l, jq_lda_a, jq_inc_i, jq_gs_t, jq_gsb_t, jq_gb_t, jq_gr_2, jq_gr_4, jq_gw_2, jq_s_t, jq_b_t, jg_c, jg_n, js_c, js_n, jrm_c, jrm_n, j2_i, j2_l, j2_a, jq_c_i, jq_c_l, jq_c_0, jq_c_n, jwd_le, jw_c0, mS_I, mS_R, mS_J, mN_I, mN_R, mN_J, mR_I, mI_R, mJ_I, mJ_R, mI_J, mR_J, ↓reduceIte, decide_true, or_true, true_or, and_self, false_or, or_false, reduceCtorEq, Bool.false_eq_true, and_false, false_and, eq_self, true_and, and_true, zero_ne, ↓br_lt_t, ↓br_lt_f, ↓br_eq_t, ↓br_eq_f, ↓br_lz_t, ↓br_lz_f, ↓br_ez_t, ↓br_ez_f, ↓br_gz_t, ↓br_gz_f, jw_id, jin_t, jix_t, MO.s0 hm, MO.s1 hm, MO.s2 hm, MO.s3 hm, MO.s4 hm, MO.s5 hm, MO.s6 hm, MO.s7 hm, MO.s8 hm, MO.s9 hm, MO.s10 hm, MO.s11 hm, MO.s12 hm, MO.s13 hm, MO.r1 hm, MO.r2 hm, MO.r3 hm, MO.r4 hm, MO.r5 hm, MO.r6 hm, MO.r7 hm, MO.r8 hm, MO.r9 hm, MO.r10 hm, MO.r11 hm, MO.r12 hm, MO.r13 hm]
  | succ n ih =>
    intro l bs m tl w l1 l2 m1 m2 hq hu ht
    have hm := hq.1
    have e : gLd H S q g t (n + 1) l bs m = if l = 3 then gLd H S q g t n (l + 1) bs m else if m < gCl H S q g t l then gLd H S q g t n (l + 1) l (gCl H S q g t l) else gLd H S q g t n (l + 1) bs m := rfl
    have jr : ∀ a, a < 6 → jrm tl a = tl := by
      intro a ha
      rcases ht with rfl | ⟨x, rfl⟩
      · rfl
      · rw [jrm_c, if_neg (by dsimp only; omega), if_neg (by dsimp only; omega)]
        rfl
    rw [e]
    by_cases q3 : l = 3
    · rw [if_pos q3]
      obtain ⟨u, e5, k5⟩ := ih (l + 1) bs m tl w (by omega) (by omega) m1 m2 hq hu ht
      refine ⟨u, ?_, k5⟩
      rw [← e5, p277_29]
      simp (disch := omega) only [p277_0, p277_1, p277_2, p277_5, p277_6, p277_7, p277_10, p277_11, p277_12, p277_15, p277_16, p277_17, p277_20, p277_21, p277_22, p277_23, p277_24, p277_26, p277_27, p277_31, p277_32, p277_35, p277_37, p277_38, p277_41, p277_44, p277_45, p277_48, p277_49, p277_52, p277_53, p277_56, p277_59, p277_61, p277_62, p277_63, p277_67, p277_68, p277_71, p277_72, p277_73, p277_76, p277_77, p277_80, p277_83, p277_87, p277_90, p277_93, p277_94, p277_96, p277_99, p277_102, p277_104, p277_105, p277_106, p277_109, p277_112, p277_113, p277_115, p277_118, p277_121, p277_122, p277_123, p277_126, jwd_c, jwd_0, Nat.reduceLeDiff, Nat.reduceEqDiff, Nat.reduceAdd, Nat.reduceSub, Nat.reduceMul, Int.reduceAdd, Int.reduceSub, Int.reduceMul, Int.reduceNeg, Int.reduceEq, Int.reduceLT, Int.reduceLE, jq_ldi_i, jq_ldl_l, jq_lda_a, jq_inc_i, jq_gs_t, jq_gsb_t, jq_gb_t, jq_gr_2, jq_gr_4, jq_gw_2, jq_s_t, jq_b_t, jg_c, jg_n, js_c, js_n, jrm_c, jrm_n, j2_i, j2_l, j2_a, jq_c_i, jq_c_l, jq_c_0, jq_c_n, jwd_le, jw_c0, mS_I, mS_R, mS_J, mN_I, mN_R, mN_J, mR_I, mI_R, mJ_I, mJ_R, mI_J, mR_J, ↓reduceIte, decide_true, or_true, true_or, and_self, false_or, or_false, reduceCtorEq, Bool.false_eq_true, and_false, false_and, eq_self, true_and, and_true, zero_ne, ↓br_lt_t, ↓br_lt_f, ↓br_eq_t, ↓br_eq_f, ↓br_lz_t, ↓br_lz_f, ↓br_ez_t, ↓br_ez_f, ↓br_gz_t, ↓br_gz_f, jw_id, jin_t, jix_t, jr]
    · rw [if_neg q3]
      have bi := b.i
      have h16 := bi.1.1
      obtain ⟨e1, w1, e2, mm1, k1, -⟩ := mF_beg hq hu
      have hm1 := mm1.1
      have mm2 := mm1.row (k := 291) (x := l)
      have k2 : Km 242 w1 (setI w1 242 291 l) := Km.B (Or.inl rfl) (by omega)
      have zb := zb0 (p := -1) (g := g) (u_ri bi (Or.inl ⟨rfl, l1, by omega⟩)) b.2.2.2.1.1 (Or.inl rfl)
      obtain ⟨x2, w3, e3, m3, ex3, zb3, k3, -⟩ := lead_in (p := -1) (al := 0) (t := t) (y2 := y) (y3 := bs) (y4 := m) (y5 := l) b.1 (by omega) (by omega) b.s1 (Or.inl rfl) rfl (by omega) t.toNat 0 _ (gZ0 (up1 q 291 l) g) _ B mm2 ⟨rfl, rfl, rfl, rfl⟩ rfl zb (by have := b.2.2.2.1; omega) (by omega) (by omega)
      have kA := (k1.tr k2).tr k3
      have hu3 := hu.nx b (by omega) b.s1 m3 ex3 rfl rfl zb (fun k hk => up1_n (by omega)) (fun _ _ => rfl) kA
      have m4 := m3.2.2.2.1
      rw [ex3.1] at m4
      have hm3 := m3.1
      have j3 := t1p_js ht
      have ec : gCl H S q g t l = (gFr H (H 0 6) S (-1) t.toNat (gZ0 (up1 q 291 l) g)).1.1 289 := rfl
      rw [ec]
      generalize gFr H (H 0 6) S (-1) t.toNat (gZ0 (up1 q 291 l) g) = z at *
      have z16 := zb3.1.1.1
      have z2 : mS (setA w 242 q) 238 = (1, 9, 0) := hm.s0
      have hd : rn 277 (29, (0, jvr 238) :: (1, .inl t) :: (2, .inl y) :: (3, .inl bs) :: (4, .inl m) :: (5, .inl l) :: tl, [], w) = rn 277 (86, [(0, jvr 238), (1, .inl t), (2, .inl y), (3, .inl bs), (4, .inl m), (5, .inl l), (6, .inl t)], [], w3) := by
        rw [← e3, p277_29]
        simp (disch := omega) only [p277_0, p277_1, p277_2, p277_5, p277_6, p277_7, p277_10, p277_11, p277_12, p277_15, p277_16, p277_17, p277_20, p277_21, p277_22, p277_23, p277_24, p277_26, p277_27, p277_31, p277_32, p277_35, p277_37, p277_38, p277_41, p277_44, p277_45, p277_48, p277_49, p277_52, p277_53, p277_56, p277_59, p277_61, p277_62, p277_63, p277_67, p277_68, p277_71, p277_72, p277_73, p277_76, p277_77, p277_80, p277_83, p277_87, p277_90, p277_93, p277_94, p277_96, p277_99, p277_102, p277_104, p277_105, p277_106, p277_109, p277_112, p277_113, p277_115, p277_118, p277_121, p277_122, p277_123, p277_126, jwd_c, jwd_0, Nat.reduceLeDiff, Nat.reduceEqDiff, Nat.reduceAdd, Nat.reduceSub, Nat.reduceMul, Int.reduceAdd, Int.reduceSub, Int.reduceMul, Int.reduceNeg, Int.reduceEq, Int.reduceLT, Int.reduceLE, jq_ldi_i, jq_ldl_l, jq_lda_a, jq_inc_i, jq_gs_t, jq_gsb_t, jq_gb_t, jq_gr_2, jq_gr_4, jq_gw_2, jq_s_t, jq_b_t, jg_c, jg_n, js_c, js_n, jrm_c, jrm_n, j2_i, j2_l, j2_a, jq_c_i, jq_c_l, jq_c_0, jq_c_n, jwd_le, jw_c0, mS_I, mS_R, mS_J, mN_I, mN_R, mN_J, mR_I, mI_R, mJ_I, mJ_R, mI_J, mR_J, ↓reduceIte, decide_true, or_true, true_or, and_self, false_or, or_false, reduceCtorEq, Bool.false_eq_true, and_false, false_and, eq_self, true_and, and_true, zero_ne, ↓br_lt_t, ↓br_lt_f, ↓br_eq_t, ↓br_eq_f, ↓br_lz_t, ↓br_lz_f, ↓br_ez_t, ↓br_ez_f, ↓br_gz_t, ↓br_gz_f, jw_id, jin_t, jix_t, MO.s0 hm, MO.s1 hm, MO.s2 hm, MO.s3 hm, MO.s4 hm, MO.s5 hm, MO.s6 hm, MO.s7 hm, MO.s8 hm, MO.s9 hm, MO.s10 hm, MO.s11 hm, MO.s12 hm, MO.s13 hm, MO.r1 hm, MO.r2 hm, MO.r3 hm, MO.r4 hm, MO.r5 hm, MO.r6 hm, MO.r7 hm, MO.r8 hm, MO.r9 hm, MO.r10 hm, MO.r11 hm, MO.r12 hm, MO.r13 hm, e1, z2, e2, MO.s0 hm1, MO.r4 hm1, MO.s4 hm1, Int.reduceToNat, j3]
      rw [hd]
      by_cases q1 : m < z.1.1 289
      · rw [if_pos q1]
        obtain ⟨u, e5, k5⟩ := ih (l + 1) l (z.1.1 289) [(6, .inl t)] w3 (by omega) (by omega) (by omega) (by omega) m3.mq hu3 (Or.inr ⟨_, rfl⟩)
        refine ⟨u, ?_, kA.tr k5⟩
        rw [← e5, p277_86]
        simp (disch := omega) only [p277_0, p277_1, p277_2, p277_5, p277_6, p277_7, p277_10, p277_11, p277_12, p277_15, p277_16, p277_17, p277_20, p277_21, p277_22, p277_23, p277_24, p277_26, p277_27, p277_31, p277_32, p277_35, p277_37, p277_38, p277_41, p277_44, p277_45, p277_48, p277_49, p277_52, p277_53, p277_56, p277_59, p277_61, p277_62, p277_63, p277_67, p277_68, p277_71, p277_72, p277_73, p277_76, p277_77, p277_80, p277_83, p277_87, p277_90, p277_93, p277_94, p277_96, p277_99, p277_102, p277_104, p277_105, p277_106, p277_109, p277_112, p277_113, p277_115, p277_118, p277_121, p277_122, p277_123, p277_126, jwd_c, jwd_0, Nat.reduceLeDiff, Nat.reduceEqDiff, Nat.reduceAdd, Nat.reduceSub, Nat.reduceMul, Int.reduceAdd, Int.reduceSub, Int.reduceMul, Int.reduceNeg, Int.reduceEq, Int.reduceLT, Int.reduceLE, jq_ldi_i, jq_ldl_l, jq_lda_a, jq_inc_i, jq_gs_t, jq_gsb_t, jq_gb_t, jq_gr_2, jq_gr_4, jq_gw_2, jq_s_t, jq_b_t, jg_c, jg_n, js_c, js_n, jrm_c, jrm_n, j2_i, j2_l, j2_a, jq_c_i, jq_c_l, jq_c_0, jq_c_n, jwd_le, jw_c0, mS_I, mS_R, mS_J, mN_I, mN_R, mN_J, mR_I, mI_R, mJ_I, mJ_R, mI_J, mR_J, ↓reduceIte, decide_true, or_true, true_or, and_self, false_or, or_false, reduceCtorEq, Bool.false_eq_true, and_false, false_and, eq_self, true_and, and_true, zero_ne, ↓br_lt_t, ↓br_lt_f, ↓br_eq_t, ↓br_eq_f, ↓br_lz_t, ↓br_lz_f, ↓br_ez_t, ↓br_ez_f, ↓br_gz_t, ↓br_gz_f, jw_id, jin_t, jix_t, MO.s0 hm3, MO.r4 hm3, MO.s4 hm3, m4, Int.reduceToNat]
      · rw [if_neg q1]
        obtain ⟨u, e5, k5⟩ := ih (l + 1) bs m [(6, .inl t)] w3 (by omega) (by omega) m1 m2 m3.mq hu3 (Or.inr ⟨_, rfl⟩)
        refine ⟨u, ?_, kA.tr k5⟩
        rw [← e5, p277_86]
        simp (disch := omega) only [p277_0, p277_1, p277_2, p277_5, p277_6, p277_7, p277_10, p277_11, p277_12, p277_15, p277_16, p277_17, p277_20, p277_21, p277_22, p277_23, p277_24, p277_26, p277_27, p277_31, p277_32, p277_35, p277_37, p277_38, p277_41, p277_44, p277_45, p277_48, p277_49, p277_52, p277_53, p277_56, p277_59, p277_61, p277_62, p277_63, p277_67, p277_68, p277_71, p277_72, p277_73, p277_76, p277_77, p277_80, p277_83, p277_87, p277_90, p277_93, p277_94, p277_96, p277_99, p277_102, p277_104, p277_105, p277_106, p277_109, p277_112, p277_113, p277_115, p277_118, p277_121, p277_122, p277_123, p277_126, jwd_c, jwd_0, Nat.reduceLeDiff, Nat.reduceEqDiff, Nat.reduceAdd, Nat.reduceSub, Nat.reduceMul, Int.reduceAdd, Int.reduceSub, Int.reduceMul, Int.reduceNeg, Int.reduceEq, Int.reduceLT, Int.reduceLE, jq_ldi_i, jq_ldl_l, jq_lda_a, jq_inc_i, jq_gs_t, jq_gsb_t, jq_gb_t, jq_gr_2, jq_gr_4, jq_gw_2, jq_s_t, jq_b_t, jg_c, jg_n, js_c, js_n, jrm_c, jrm_n, j2_i, j2_l, j2_a, jq_c_i, jq_c_l, jq_c_0, jq_c_n, jwd_le, jw_c0, mS_I, mS_R, mS_J, mN_I, mN_R, mN_J, mR_I, mI_R, mJ_I, mJ_R, mI_J, mR_J, ↓reduceIte, decide_true, or_true, true_or, and_self, false_or, or_false, reduceCtorEq, Bool.false_eq_true, and_false, false_and, eq_self, true_and, and_true, zero_ne, ↓br_lt_t, ↓br_lt_f, ↓br_eq_t, ↓br_eq_f, ↓br_lz_t, ↓br_lz_f, ↓br_ez_t, ↓br_ez_f, ↓br_gz_t, ↓br_gz_f, jw_id, jin_t, jix_t, MO.s0 hm3, MO.r4 hm3, MO.s4 hm3, m4, Int.reduceToNat]
theorem d_leader (hq : MQh w h H) (hv : mI w 241 = r) (b : fB H r S q g B) (hu : fU w H S q g) {t : Int} (x1 : -2147483648 ≤ t) (x2 : t < 2147483648) : ∃ u, rn 277 (0, [(0, jvr 238), (1, .inl t)], [], w) = some (some (.inl (A27 H S q g t).1), u) ∧ qM w u (A27 H S q g t).2 := by
  have hs0 := hq.1.s0
  have hq0 : MQh (setI w 238 0 0) h H := hq.z
  have hv0 : mI (setI w 238 0 0) 241 = r := (mI_nb (by omega)).trans hv
  have e00 : rn 277 (0, [(0, jvr 238), (1, .inl t)], [], w) = rn 277 (5, [(0, jvr 238), (1, .inl t)], [], setI w 238 0 0) := by
    simp only [p277_0, p277_1, p277_2, jwd_c, jwd_0, Nat.reduceLeDiff, Nat.reduceEqDiff, Nat.reduceAdd, Nat.reduceSub, Nat.reduceMul, Int.reduceAdd, Int.reduceSub, Int.reduceMul, Int.reduceNeg, Int.reduceEq, Int.reduceLT, Int.reduceLE, jq_ldi_i, jq_ldl_l, jq_lda_a, jq_inc_i, jq_gs_t, jq_gsb_t, jq_gb_t, jq_gr_2, jq_gr_4, jq_gw_2, jq_s_t, jq_b_t, jg_c, jg_n, js_c, js_n, jrm_c, jrm_n, j2_i, j2_l, j2_a, jq_c_i, jq_c_l, jq_c_0, jq_c_n, jwd_le, jw_c0, mS_I, mS_R, mS_J, mN_I, mN_R, mN_J, mR_I, mI_R, mJ_I, mJ_R, mI_J, mR_J, ↓reduceIte, decide_true, or_true, true_or, and_self, false_or, or_false, reduceCtorEq, Bool.false_eq_true, and_false, false_and, eq_self, true_and, and_true, zero_ne, hs0]
  rw [e00]
  clear e00
  generalize hw0 : setI w 238 0 0 = w0 at *
  have hq1 := hq0
  obtain ⟨hm, hh, h3⟩ := hq0
  have hge := hh.ge
  have er := m_refIn hm h3 x1 x2
  unfold A27
  by_cases ht : 0 ≤ t ∧ t ≤ 40
  · rw [if_pos ht] at er ⊢
    obtain ⟨u, e, k⟩ := mlead_lp b ht.1 ht.2 (y := 0) 5 0 0 (-1) [] w0 (by omega) (by omega) (by omega) (by omega) hq1 (hu.z hw0) (Or.inl rfl)
    refine ⟨_, ?_, qM.fut hw0 k⟩
    rw [← e]
    simp (disch := omega) only [p277_0, p277_1, p277_2, p277_5, p277_6, p277_7, p277_10, p277_11, p277_12, p277_15, p277_16, p277_17, p277_20, p277_21, p277_22, p277_23, p277_24, p277_26, p277_27, p277_31, p277_32, p277_35, p277_37, p277_38, p277_41, p277_44, p277_45, p277_48, p277_49, p277_52, p277_53, p277_56, p277_59, p277_61, p277_62, p277_63, p277_67, p277_68, p277_71, p277_72, p277_73, p277_76, p277_77, p277_80, p277_83, p277_87, p277_90, p277_93, p277_94, p277_96, p277_99, p277_102, p277_104, p277_105, p277_106, p277_109, p277_112, p277_113, p277_115, p277_118, p277_121, p277_122, p277_123, p277_126, jwd_c, jwd_0, Nat.reduceLeDiff, Nat.reduceEqDiff, Nat.reduceAdd, Nat.reduceSub, Nat.reduceMul, Int.reduceAdd, Int.reduceSub, Int.reduceMul, Int.reduceNeg, Int.reduceEq, Int.reduceLT, Int.reduceLE, jq_ldi_i, jq_ldl_l, jq_lda_a, jq_inc_i, jq_gs_t, jq_gsb_t, jq_gb_t, jq_gr_2, jq_gr_4, jq_gw_2, jq_s_t, jq_b_t, jg_c, jg_n, js_c, js_n, jrm_c, jrm_n, j2_i, j2_l, j2_a, jq_c_i, jq_c_l, jq_c_0, jq_c_n, jwd_le, jw_c0, mS_I, mS_R, mS_J, mN_I, mN_R, mN_J, mR_I, mI_R, mJ_I, mJ_R, mI_J, mR_J, ↓reduceIte, decide_true, or_true, true_or, and_self, false_or, or_false, reduceCtorEq, Bool.false_eq_true, and_false, false_and, eq_self, true_and, and_true, zero_ne, ↓br_lt_t, ↓br_lt_f, ↓br_eq_t, ↓br_eq_f, ↓br_lz_t, ↓br_lz_f, ↓br_ez_t, ↓br_ez_f, ↓br_gz_t, ↓br_gz_f, jw_id, jin_t, jix_t, MO.s0 hm, MO.s1 hm, MO.s2 hm, MO.s3 hm, MO.s4 hm, MO.s5 hm, MO.s6 hm, MO.s7 hm, MO.s8 hm, MO.s9 hm, MO.s10 hm, MO.s11 hm, MO.s12 hm, MO.s13 hm, MO.r1 hm, MO.r2 hm, MO.r3 hm, MO.r4 hm, MO.r5 hm, MO.r6 hm, MO.r7 hm, MO.r8 hm, MO.r9 hm, MO.r10 hm, MO.r11 hm, MO.r12 hm, MO.r13 hm, er]
  · rw [if_neg ht] at er ⊢
    refine ⟨_, ?_, qM.triv hw0⟩
    simp (disch := omega) only [p277_0, p277_1, p277_2, p277_5, p277_6, p277_7, p277_10, p277_11, p277_12, p277_15, p277_16, p277_17, p277_20, p277_21, p277_22, p277_23, p277_24, p277_26, p277_27, p277_31, p277_32, p277_35, p277_37, p277_38, p277_41, p277_44, p277_45, p277_48, p277_49, p277_52, p277_53, p277_56, p277_59, p277_61, p277_62, p277_63, p277_67, p277_68, p277_71, p277_72, p277_73, p277_76, p277_77, p277_80, p277_83, p277_87, p277_90, p277_93, p277_94, p277_96, p277_99, p277_102, p277_104, p277_105, p277_106, p277_109, p277_112, p277_113, p277_115, p277_118, p277_121, p277_122, p277_123, p277_126, p213_0, p213_1, p213_2, p213_5, p213_6, p213_7, p213_10, p213_11, p176_0, p176_1, p176_2, p176_5, p176_6, p176_7, p176_10, p176_11, jwd_c, jwd_0, Nat.reduceLeDiff, Nat.reduceEqDiff, Nat.reduceAdd, Nat.reduceSub, Nat.reduceMul, Int.reduceAdd, Int.reduceSub, Int.reduceMul, Int.reduceNeg, Int.reduceEq, Int.reduceLT, Int.reduceLE, jq_ldi_i, jq_ldl_l, jq_lda_a, jq_inc_i, jq_gs_t, jq_gsb_t, jq_gb_t, jq_gr_2, jq_gr_4, jq_gw_2, jq_s_t, jq_b_t, jg_c, jg_n, js_c, js_n, jrm_c, jrm_n, j2_i, j2_l, j2_a, jq_c_i, jq_c_l, jq_c_0, jq_c_n, jwd_le, jw_c0, mS_I, mS_R, mS_J, mN_I, mN_R, mN_J, mR_I, mI_R, mJ_I, mJ_R, mI_J, mR_J, ↓reduceIte, decide_true, or_true, true_or, and_self, false_or, or_false, reduceCtorEq, Bool.false_eq_true, and_false, false_and, eq_self, true_and, and_true, zero_ne, ↓br_lt_t, ↓br_lt_f, ↓br_eq_t, ↓br_eq_f, ↓br_lz_t, ↓br_lz_f, ↓br_ez_t, ↓br_ez_f, ↓br_gz_t, ↓br_gz_f, jw_id, jin_t, jix_t, MO.s0 hm, MO.s1 hm, MO.s2 hm, MO.s3 hm, MO.s4 hm, MO.s5 hm, MO.s6 hm, MO.s7 hm, MO.s8 hm, MO.s9 hm, MO.s10 hm, MO.s11 hm, MO.s12 hm, MO.s13 hm, MO.r1 hm, MO.r2 hm, MO.r3 hm, MO.r4 hm, MO.r5 hm, MO.r6 hm, MO.r7 hm, MO.r8 hm, MO.r9 hm, MO.r10 hm, MO.r11 hm, MO.r12 hm, MO.r13 hm, er]
theorem mmean_lp (b : fB H r S q g B) {sd n0 t : Int} (s1 : 0 ≤ sd) (s2 : sd ≤ 65536) (n2 : n0 ≤ 20) (t1 : 0 ≤ t) (t2 : t ≤ 40) : ∀ (n : Nat) (i s : Int) (tl : jmL) (w : jmW), 0 ≤ i → i + n = n0 → MQh w h H → fU w H S q g → t1p 6 tl → ∃ u, rn 282 (61, (0, jvr 238) :: (1, .inl sd) :: (2, .inl n0) :: (3, .inl t) :: (4, .inl s) :: (5, .inl i) :: tl, [], w) = some (some (.inl (gMn H S q g t sd n i s)), setI (setI u 238 1 0) 238 2 (-1)) ∧ Km 242 w u := by
  have k6 := b.1.2.1
  intro n
  induction n with
  | zero =>
    intro i s tl w i1 i2 hq hu ht
    have hm := hq.1
    have e : gMn H S q g t sd 0 i s = s := rfl
    refine ⟨w, ?_, Km.rf _ _⟩
    rw [e, p282_61]
    simp (disch := omega) only [p282_0, p282_1, p282_2, p282_5, p282_6, p282_9n, p282_9s, p282_12, p282_13, p282_14, p282_17, p282_18, p282_19, p282_20, p282_23, p282_26, p282_29, p282_30, p282_31, p282_33, p282_36, p282_39, p282_40, p282_41, p282_43, p282_46, p282_49, p282_50, p282_51, p282_54, p282_55, p282_56, p282_58, p282_59, p282_63, p282_64, p282_67, p282_68, p282_71, p282_72, p282_75, p282_76, p282_79, p282_82, p282_83, p282_85, p282_86, p282_89, p282_90, p282_91, p282_92, p282_96, p282_97, p282_100, p282_101, p282_102, p282_105, p282_106, p282_109, p282_112, p282_117, p282_118, p282_121, p282_124, p282_125, p282_126, p282_128, p282_131, p282_134, p282_135, p282_137, p282_140, p213_0, p213_1, p213_2, p213_5, p213_6, p213_7, p213_10, p213_11, p176_0, p176_1, p176_2, p176_5, p176_6, p176_7, p176_10, p176_11, jwd_c, jwd_0, Nat.reduceLeDiff, Nat.reduceEqDiff, Nat.reduceAdd, Nat.reduceSub, Nat.reduceMul, Int.reduceAdd, Int.reduceSub, Int.reduceMul, Int.reduceNeg, Int.reduceEq, Int.reduceLT, Int.reduceLE, jq_ldi_i, jq_ldl_l, jq_lda_a, jq_inc_i, jq_gs_t, jq_gsb_t, jq_gb_t, jq_gr_2, jq_gr_4, jq_gw_2, jq_s_t, jq_b_t, jg_c, jg_n, js_c, js_n, jrm_c, jrm_n, j2_i, j2_l, j2_a, jq_c_i, jq_c_l, jq_c_0, jq_c_n, jwd_le, jw_c0, mS_I, mS_R, mS_J, mN_I, mN_R, mN_J, mR_I, mI_R, mJ_I, mJ_R, mI_J, mR_J, ↓reduceIte, decide_true, or_true, true_or, and_self, false_or, or_false, reduceCtorEq, Bool.false_eq_true, and_false, false_and, eq_self, true_and, and_true, zero_ne, ↓br_lt_t, ↓br_lt_f, ↓br_eq_t, ↓br_eq_f, ↓br_lz_t, ↓br_lz_f, ↓br_ez_t, ↓br_ez_f, ↓br_gz_t, ↓br_gz_f, jw_id, jin_t, jix_t, MO.s0 hm, MO.s1 hm, MO.s2 hm, MO.s3 hm, MO.s4 hm, MO.s5 hm, MO.s6 hm, MO.s7 hm, MO.s8 hm, MO.s9 hm, MO.s10 hm, MO.s11 hm, MO.s12 hm, MO.s13 hm, MO.r1 hm, MO.r2 hm, MO.r3 hm, MO.r4 hm, MO.r5 hm, MO.r6 hm, MO.r7 hm, MO.r8 hm, MO.r9 hm, MO.r10 hm, MO.r11 hm, MO.r12 hm, MO.r13 hm]
  | succ n ih =>
    intro i s tl w i1 i2 hq hu ht
    have hm := hq.1
    have e : gMn H S q g t sd (n + 1) i s = gMn H S q g t sd n (i + 1) (s + gCs H S q g t (sd + i)) := rfl
    have bi := b.i
    have h16 := bi.1.1
    have m0 : (sd + i).tmod 65537 = (sd + i) % 65537 := tmod_nn (by omega)
    obtain ⟨e1, w1, e2, mm1, k1, -⟩ := mF_beg hq hu
    have hm1 := mm1.1
    have mm2 := mm1.row (k := 295) (x := (sd + i) % 65537)
    have k2 : Km 242 w1 (setI w1 242 295 ((sd + i) % 65537)) := Km.B (Or.inl rfl) (by omega)
    have zb := zb0 (p := -1) (g := g) (u_ri (m := 295) (x := (sd + i) % 65537) bi (Or.inr (Or.inl ⟨rfl, by omega, by omega⟩))) b.2.2.2.1.1 (Or.inl rfl)
    obtain ⟨x2, w3, e3, m3, ex3, zb3, k3, -⟩ := mean_in (p := -1) (al := 0) (t := t) (y1 := sd) (y2 := n0) (y4 := s) (y5 := i) b.1 (by omega) (by omega) b.s1 (Or.inl rfl) rfl (by omega) t.toNat 0 _ (gZ0 (up1 q 295 ((sd + i) % 65537)) g) _ B mm2 ⟨rfl, rfl, rfl, rfl⟩ rfl zb (by have := b.2.2.2.1; omega) (by omega) (by omega)
    have kA := (k1.tr k2).tr k3
    have hu3 := hu.nx b (by omega) b.s1 m3 ex3 rfl rfl zb (fun k hk => up1_n (by omega)) (fun _ _ => rfl) kA
    have m4 := m3.2.2.2.1
    rw [ex3.1] at m4
    have hm3 := m3.1
    have j3 := t1p_js ht
    have ec : gCs H S q g t (sd + i) = (gFr H (H 0 6) S (-1) t.toNat (gZ0 (up1 q 295 ((sd + i) % 65537)) g)).1.1 289 := rfl
    rw [e, ec]
    generalize gFr H (H 0 6) S (-1) t.toNat (gZ0 (up1 q 295 ((sd + i) % 65537)) g) = z at *
    have z2 : mS (setA w 242 q) 238 = (1, 9, 0) := hm.s0
    obtain ⟨u, e5, k5⟩ := ih (i + 1) (s + z.1.1 289) [(6, .inl t)] w3 (by omega) (by omega) m3.mq hu3 (Or.inr ⟨_, rfl⟩)
    refine ⟨u, ?_, kA.tr k5⟩
    rw [p282_61]
    simp (disch := omega) only [p282_0, p282_1, p282_2, p282_5, p282_6, p282_9n, p282_9s, p282_12, p282_13, p282_14, p282_17, p282_18, p282_19, p282_20, p282_23, p282_26, p282_29, p282_30, p282_31, p282_33, p282_36, p282_39, p282_40, p282_41, p282_43, p282_46, p282_49, p282_50, p282_51, p282_54, p282_55, p282_56, p282_58, p282_59, p282_63, p282_64, p282_67, p282_68, p282_71, p282_72, p282_75, p282_76, p282_79, p282_82, p282_83, p282_85, p282_86, p282_89, p282_90, p282_91, p282_92, p282_96, p282_97, p282_100, p282_101, p282_102, p282_105, p282_106, p282_109, p282_112, p282_117, p282_118, p282_121, p282_124, p282_125, p282_126, p282_128, p282_131, p282_134, p282_135, p282_137, p282_140, jwd_c, jwd_0, Nat.reduceLeDiff, Nat.reduceEqDiff, Nat.reduceAdd, Nat.reduceSub, Nat.reduceMul, Int.reduceAdd, Int.reduceSub, Int.reduceMul, Int.reduceNeg, Int.reduceEq, Int.reduceLT, Int.reduceLE, jq_ldi_i, jq_ldl_l, jq_lda_a, jq_inc_i, jq_gs_t, jq_gsb_t, jq_gb_t, jq_gr_2, jq_gr_4, jq_gw_2, jq_s_t, jq_b_t, jg_c, jg_n, js_c, js_n, jrm_c, jrm_n, j2_i, j2_l, j2_a, jq_c_i, jq_c_l, jq_c_0, jq_c_n, jwd_le, jw_c0, mS_I, mS_R, mS_J, mN_I, mN_R, mN_J, mR_I, mI_R, mJ_I, mJ_R, mI_J, mR_J, ↓reduceIte, decide_true, or_true, true_or, and_self, false_or, or_false, reduceCtorEq, Bool.false_eq_true, and_false, false_and, eq_self, true_and, and_true, zero_ne, ↓br_lt_t, ↓br_lt_f, ↓br_eq_t, ↓br_eq_f, ↓br_lz_t, ↓br_lz_f, ↓br_ez_t, ↓br_ez_f, ↓br_gz_t, ↓br_gz_f, jw_id, jin_t, jix_t, MO.s0 hm, MO.s1 hm, MO.s2 hm, MO.s3 hm, MO.s4 hm, MO.s5 hm, MO.s6 hm, MO.s7 hm, MO.s8 hm, MO.s9 hm, MO.s10 hm, MO.s11 hm, MO.s12 hm, MO.s13 hm, MO.r1 hm, MO.r2 hm, MO.r3 hm, MO.r4 hm, MO.r5 hm, MO.r6 hm, MO.r7 hm, MO.r8 hm, MO.r9 hm, MO.r10 hm, MO.r11 hm, MO.r12 hm, MO.r13 hm, e1, z2, e2, MO.s0 hm1, MO.r4 hm1, MO.s4 hm1, Int.reduceToNat, j3, m0]
    rw [e3, ← e5, p282_115]
    simp (disch := omega) only [p282_0, p282_1, p282_2, p282_5, p282_6, p282_9n, p282_9s, p282_12, p282_13, p282_14, p282_17, p282_18, p282_19, p282_20, p282_23, p282_26, p282_29, p282_30, p282_31, p282_33, p282_36, p282_39, p282_40, p282_41, p282_43, p282_46, p282_49, p282_50, p282_51, p282_54, p282_55, p282_56, p282_58, p282_59, p282_63, p282_64, p282_67, p282_68, p282_71, p282_72, p282_75, p282_76, p282_79, p282_82, p282_83, p282_85, p282_86, p282_89, p282_90, p282_91, p282_92, p282_96, p282_97, p282_100, p282_101, p282_102, p282_105, p282_106, p282_109, p282_112, p282_117, p282_118, p282_121, p282_124, p282_125, p282_126, p282_128, p282_131, p282_134, p282_135, p282_137, p282_140, jwd_c, jwd_0, Nat.reduceLeDiff, Nat.reduceEqDiff, Nat.reduceAdd, Nat.reduceSub, Nat.reduceMul, Int.reduceAdd, Int.reduceSub, Int.reduceMul, Int.reduceNeg, Int.reduceEq, Int.reduceLT, Int.reduceLE, jq_ldi_i, jq_ldl_l, jq_lda_a, jq_inc_i, jq_gs_t, jq_gsb_t, jq_gb_t, jq_gr_2, jq_gr_4, jq_gw_2, jq_s_t, jq_b_t, jg_c, jg_n, js_c, js_n, jrm_c, jrm_n, j2_i, j2_l, j2_a, jq_c_i, jq_c_l, jq_c_0, jq_c_n, jwd_le, jw_c0, mS_I, mS_R, mS_J, mN_I, mN_R, mN_J, mR_I, mI_R, mJ_I, mJ_R, mI_J, mR_J, ↓reduceIte, decide_true, or_true, true_or, and_self, false_or, or_false, reduceCtorEq, Bool.false_eq_true, and_false, false_and, eq_self, true_and, and_true, zero_ne, ↓br_lt_t, ↓br_lt_f, ↓br_eq_t, ↓br_eq_f, ↓br_lz_t, ↓br_lz_f, ↓br_ez_t, ↓br_ez_f, ↓br_gz_t, ↓br_gz_f, jw_id, jin_t, jix_t, MO.s0 hm3, MO.r4 hm3, MO.s4 hm3, m4, Int.reduceToNat]
theorem d_mean (hq : MQh w h H) (hv : mI w 241 = r) (b : fB H r S q g B) (hu : fU w H S q g) {sd n t : Int} (x1 : -2147483648 ≤ sd) (x2 : sd < 2147483648) (y1 : -2147483648 ≤ n) (y2 : n < 2147483648) (z1 : -2147483648 ≤ t) (z2 : t < 2147483648) : ∃ u, rn 282 (0, [(0, jvr 238), (1, .inl sd), (2, .inl n), (3, .inl t)], [], w) = some (some (.inl (A30 H S q g sd n t).1), u) ∧ qM w u (A30 H S q g sd n t).2 := by
  have hs0 := hq.1.s0
  have hq0 : MQh (setI w 238 0 0) h H := hq.z
  have hv0 : mI (setI w 238 0 0) 241 = r := (mI_nb (by omega)).trans hv
  have e00 : rn 282 (0, [(0, jvr 238), (1, .inl sd), (2, .inl n), (3, .inl t)], [], w) = rn 282 (5, [(0, jvr 238), (1, .inl sd), (2, .inl n), (3, .inl t)], [], setI w 238 0 0) := by
    simp only [p282_0, p282_1, p282_2, jwd_c, jwd_0, Nat.reduceLeDiff, Nat.reduceEqDiff, Nat.reduceAdd, Nat.reduceSub, Nat.reduceMul, Int.reduceAdd, Int.reduceSub, Int.reduceMul, Int.reduceNeg, Int.reduceEq, Int.reduceLT, Int.reduceLE, jq_ldi_i, jq_ldl_l, jq_lda_a, jq_inc_i, jq_gs_t, jq_gsb_t, jq_gb_t, jq_gr_2, jq_gr_4, jq_gw_2, jq_s_t, jq_b_t, jg_c, jg_n, js_c, js_n, jrm_c, jrm_n, j2_i, j2_l, j2_a, jq_c_i, jq_c_l, jq_c_0, jq_c_n, jwd_le, jw_c0, mS_I, mS_R, mS_J, mN_I, mN_R, mN_J, mR_I, mI_R, mJ_I, mJ_R, mI_J, mR_J, ↓reduceIte, decide_true, or_true, true_or, and_self, false_or, or_false, reduceCtorEq, Bool.false_eq_true, and_false, false_and, eq_self, true_and, and_true, zero_ne, hs0]
  rw [e00]
  clear e00
  generalize hw0 : setI w 238 0 0 = w0 at *
  have hq1 := hq0
  obtain ⟨hm, hh, h3⟩ := hq0
  have hge := hh.ge
  have c1 := m_in (w := w0) (x := sd) (a := 0) (b := 65536) x1 x2 (by omega) (by omega) (by omega) (by omega)
  have c2 := m_in (w := w0) (x := n) (a := 1) (b := 20) y1 y2 (by omega) (by omega) (by omega) (by omega)
  have c3 := m_in (w := w0) (x := t) (a := 0) (b := 40) z1 z2 (by omega) (by omega) (by omega) (by omega)
  unfold A30
  by_cases q1 : 0 ≤ sd ∧ sd ≤ 65536
  · rw [if_pos q1] at c1
    by_cases q2 : 1 ≤ n ∧ n ≤ 20
    · rw [if_pos q2] at c2
      by_cases q3 : 0 ≤ t ∧ t ≤ 40
      · rw [if_pos q3] at c3
        rw [if_pos ⟨q1, q2, q3⟩]
        obtain ⟨u, e, k⟩ := mmean_lp b q1.1 q1.2 q2.2 q3.1 q3.2 n.toNat 0 0 [] w0 (by omega) (by omega) hq1 (hu.z hw0) (Or.inl rfl)
        refine ⟨_, ?_, qM.fut hw0 k⟩
        rw [← e]
        simp (disch := omega) only [p282_0, p282_1, p282_2, p282_5, p282_6, p282_9n, p282_9s, p282_12, p282_13, p282_14, p282_17, p282_18, p282_19, p282_20, p282_23, p282_26, p282_29, p282_30, p282_31, p282_33, p282_36, p282_39, p282_40, p282_41, p282_43, p282_46, p282_49, p282_50, p282_51, p282_54, p282_55, p282_56, p282_58, p282_59, p282_63, p282_64, p282_67, p282_68, p282_71, p282_72, p282_75, p282_76, p282_79, p282_82, p282_83, p282_85, p282_86, p282_89, p282_90, p282_91, p282_92, p282_96, p282_97, p282_100, p282_101, p282_102, p282_105, p282_106, p282_109, p282_112, p282_117, p282_118, p282_121, p282_124, p282_125, p282_126, p282_128, p282_131, p282_134, p282_135, p282_137, p282_140, jwd_c, jwd_0, Nat.reduceLeDiff, Nat.reduceEqDiff, Nat.reduceAdd, Nat.reduceSub, Nat.reduceMul, Int.reduceAdd, Int.reduceSub, Int.reduceMul, Int.reduceNeg, Int.reduceEq, Int.reduceLT, Int.reduceLE, jq_ldi_i, jq_ldl_l, jq_lda_a, jq_inc_i, jq_gs_t, jq_gsb_t, jq_gb_t, jq_gr_2, jq_gr_4, jq_gw_2, jq_s_t, jq_b_t, jg_c, jg_n, js_c, js_n, jrm_c, jrm_n, j2_i, j2_l, j2_a, jq_c_i, jq_c_l, jq_c_0, jq_c_n, jwd_le, jw_c0, mS_I, mS_R, mS_J, mN_I, mN_R, mN_J, mR_I, mI_R, mJ_I, mJ_R, mI_J, mR_J, ↓reduceIte, decide_true, or_true, true_or, and_self, false_or, or_false, reduceCtorEq, Bool.false_eq_true, and_false, false_and, eq_self, true_and, and_true, zero_ne, ↓br_lt_t, ↓br_lt_f, ↓br_eq_t, ↓br_eq_f, ↓br_lz_t, ↓br_lz_f, ↓br_ez_t, ↓br_ez_f, ↓br_gz_t, ↓br_gz_f, jw_id, jin_t, jix_t, MO.s0 hm, MO.s1 hm, MO.s2 hm, MO.s3 hm, MO.s4 hm, MO.s5 hm, MO.s6 hm, MO.s7 hm, MO.s8 hm, MO.s9 hm, MO.s10 hm, MO.s11 hm, MO.s12 hm, MO.s13 hm, MO.r1 hm, MO.r2 hm, MO.r3 hm, MO.r4 hm, MO.r5 hm, MO.r6 hm, MO.r7 hm, MO.r8 hm, MO.r9 hm, MO.r10 hm, MO.r11 hm, MO.r12 hm, MO.r13 hm, h3, c1, c2, c3]
      · rw [if_neg q3] at c3
        rw [if_neg (fun z => q3 z.2.2)]
        refine ⟨_, ?_, qM.triv hw0⟩
        simp (disch := omega) only [p282_0, p282_1, p282_2, p282_5, p282_6, p282_9n, p282_9s, p282_12, p282_13, p282_14, p282_17, p282_18, p282_19, p282_20, p282_23, p282_26, p282_29, p282_30, p282_31, p282_33, p282_36, p282_39, p282_40, p282_41, p282_43, p282_46, p282_49, p282_50, p282_51, p282_54, p282_55, p282_56, p282_58, p282_59, p282_63, p282_64, p282_67, p282_68, p282_71, p282_72, p282_75, p282_76, p282_79, p282_82, p282_83, p282_85, p282_86, p282_89, p282_90, p282_91, p282_92, p282_96, p282_97, p282_100, p282_101, p282_102, p282_105, p282_106, p282_109, p282_112, p282_117, p282_118, p282_121, p282_124, p282_125, p282_126, p282_128, p282_131, p282_134, p282_135, p282_137, p282_140, p213_0, p213_1, p213_2, p213_5, p213_6, p213_7, p213_10, p213_11, p176_0, p176_1, p176_2, p176_5, p176_6, p176_7, p176_10, p176_11, jwd_c, jwd_0, Nat.reduceLeDiff, Nat.reduceEqDiff, Nat.reduceAdd, Nat.reduceSub, Nat.reduceMul, Int.reduceAdd, Int.reduceSub, Int.reduceMul, Int.reduceNeg, Int.reduceEq, Int.reduceLT, Int.reduceLE, jq_ldi_i, jq_ldl_l, jq_lda_a, jq_inc_i, jq_gs_t, jq_gsb_t, jq_gb_t, jq_gr_2, jq_gr_4, jq_gw_2, jq_s_t, jq_b_t, jg_c, jg_n, js_c, js_n, jrm_c, jrm_n, j2_i, j2_l, j2_a, jq_c_i, jq_c_l, jq_c_0, jq_c_n, jwd_le, jw_c0, mS_I, mS_R, mS_J, mN_I, mN_R, mN_J, mR_I, mI_R, mJ_I, mJ_R, mI_J, mR_J, ↓reduceIte, decide_true, or_true, true_or, and_self, false_or, or_false, reduceCtorEq, Bool.false_eq_true, and_false, false_and, eq_self, true_and, and_true, zero_ne, ↓br_lt_t, ↓br_lt_f, ↓br_eq_t, ↓br_eq_f, ↓br_lz_t, ↓br_lz_f, ↓br_ez_t, ↓br_ez_f, ↓br_gz_t, ↓br_gz_f, jw_id, jin_t, jix_t, MO.s0 hm, MO.s1 hm, MO.s2 hm, MO.s3 hm, MO.s4 hm, MO.s5 hm, MO.s6 hm, MO.s7 hm, MO.s8 hm, MO.s9 hm, MO.s10 hm, MO.s11 hm, MO.s12 hm, MO.s13 hm, MO.r1 hm, MO.r2 hm, MO.r3 hm, MO.r4 hm, MO.r5 hm, MO.r6 hm, MO.r7 hm, MO.r8 hm, MO.r9 hm, MO.r10 hm, MO.r11 hm, MO.r12 hm, MO.r13 hm, h3, c1, c2, c3]
    · rw [if_neg q2] at c2
      rw [if_neg (fun z => q2 z.2.1)]
      refine ⟨_, ?_, qM.triv hw0⟩
      simp (disch := omega) only [p282_0, p282_1, p282_2, p282_5, p282_6, p282_9n, p282_9s, p282_12, p282_13, p282_14, p282_17, p282_18, p282_19, p282_20, p282_23, p282_26, p282_29, p282_30, p282_31, p282_33, p282_36, p282_39, p282_40, p282_41, p282_43, p282_46, p282_49, p282_50, p282_51, p282_54, p282_55, p282_56, p282_58, p282_59, p282_63, p282_64, p282_67, p282_68, p282_71, p282_72, p282_75, p282_76, p282_79, p282_82, p282_83, p282_85, p282_86, p282_89, p282_90, p282_91, p282_92, p282_96, p282_97, p282_100, p282_101, p282_102, p282_105, p282_106, p282_109, p282_112, p282_117, p282_118, p282_121, p282_124, p282_125, p282_126, p282_128, p282_131, p282_134, p282_135, p282_137, p282_140, p213_0, p213_1, p213_2, p213_5, p213_6, p213_7, p213_10, p213_11, p176_0, p176_1, p176_2, p176_5, p176_6, p176_7, p176_10, p176_11, jwd_c, jwd_0, Nat.reduceLeDiff, Nat.reduceEqDiff, Nat.reduceAdd, Nat.reduceSub, Nat.reduceMul, Int.reduceAdd, Int.reduceSub, Int.reduceMul, Int.reduceNeg, Int.reduceEq, Int.reduceLT, Int.reduceLE, jq_ldi_i, jq_ldl_l, jq_lda_a, jq_inc_i, jq_gs_t, jq_gsb_t, jq_gb_t, jq_gr_2, jq_gr_4, jq_gw_2, jq_s_t, jq_b_t, jg_c, jg_n, js_c, js_n, jrm_c, jrm_n, j2_i, j2_l, j2_a, jq_c_i, jq_c_l, jq_c_0, jq_c_n, jwd_le, jw_c0, mS_I, mS_R, mS_J, mN_I, mN_R, mN_J, mR_I, mI_R, mJ_I, mJ_R, mI_J, mR_J, ↓reduceIte, decide_true, or_true, true_or, and_self, false_or, or_false, reduceCtorEq, Bool.false_eq_true, and_false, false_and, eq_self, true_and, and_true, zero_ne, ↓br_lt_t, ↓br_lt_f, ↓br_eq_t, ↓br_eq_f, ↓br_lz_t, ↓br_lz_f, ↓br_ez_t, ↓br_ez_f, ↓br_gz_t, ↓br_gz_f, jw_id, jin_t, jix_t, MO.s0 hm, MO.s1 hm, MO.s2 hm, MO.s3 hm, MO.s4 hm, MO.s5 hm, MO.s6 hm, MO.s7 hm, MO.s8 hm, MO.s9 hm, MO.s10 hm, MO.s11 hm, MO.s12 hm, MO.s13 hm, MO.r1 hm, MO.r2 hm, MO.r3 hm, MO.r4 hm, MO.r5 hm, MO.r6 hm, MO.r7 hm, MO.r8 hm, MO.r9 hm, MO.r10 hm, MO.r11 hm, MO.r12 hm, MO.r13 hm, h3, c1, c2]
  · rw [if_neg q1] at c1
    rw [if_neg (fun z => q1 z.1)]
    refine ⟨_, ?_, qM.triv hw0⟩
    simp (disch := omega) only [p282_0, p282_1, p282_2, p282_5, p282_6, p282_9n, p282_9s, p282_12, p282_13, p282_14, p282_17, p282_18, p282_19, p282_20, p282_23, p282_26, p282_29, p282_30, p282_31, p282_33, p282_36, p282_39, p282_40, p282_41, p282_43, p282_46, p282_49, p282_50, p282_51, p282_54, p282_55, p282_56, p282_58, p282_59, p282_63, p282_64, p282_67, p282_68, p282_71, p282_72, p282_75, p282_76, p282_79, p282_82, p282_83, p282_85, p282_86, p282_89, p282_90, p282_91, p282_92, p282_96, p282_97, p282_100, p282_101, p282_102, p282_105, p282_106, p282_109, p282_112, p282_117, p282_118, p282_121, p282_124, p282_125, p282_126, p282_128, p282_131, p282_134, p282_135, p282_137, p282_140, p213_0, p213_1, p213_2, p213_5, p213_6, p213_7, p213_10, p213_11, p176_0, p176_1, p176_2, p176_5, p176_6, p176_7, p176_10, p176_11, jwd_c, jwd_0, Nat.reduceLeDiff, Nat.reduceEqDiff, Nat.reduceAdd, Nat.reduceSub, Nat.reduceMul, Int.reduceAdd, Int.reduceSub, Int.reduceMul, Int.reduceNeg, Int.reduceEq, Int.reduceLT, Int.reduceLE, jq_ldi_i, jq_ldl_l, jq_lda_a, jq_inc_i, jq_gs_t, jq_gsb_t, jq_gb_t, jq_gr_2, jq_gr_4, jq_gw_2, jq_s_t, jq_b_t, jg_c, jg_n, js_c, js_n, jrm_c, jrm_n, j2_i, j2_l, j2_a, jq_c_i, jq_c_l, jq_c_0, jq_c_n, jwd_le, jw_c0, mS_I, mS_R, mS_J, mN_I, mN_R, mN_J, mR_I, mI_R, mJ_I, mJ_R, mI_J, mR_J, ↓reduceIte, decide_true, or_true, true_or, and_self, false_or, or_false, reduceCtorEq, Bool.false_eq_true, and_false, false_and, eq_self, true_and, and_true, zero_ne, ↓br_lt_t, ↓br_lt_f, ↓br_eq_t, ↓br_eq_f, ↓br_lz_t, ↓br_lz_f, ↓br_ez_t, ↓br_ez_f, ↓br_gz_t, ↓br_gz_f, jw_id, jin_t, jix_t, MO.s0 hm, MO.s1 hm, MO.s2 hm, MO.s3 hm, MO.s4 hm, MO.s5 hm, MO.s6 hm, MO.s7 hm, MO.s8 hm, MO.s9 hm, MO.s10 hm, MO.s11 hm, MO.s12 hm, MO.s13 hm, MO.r1 hm, MO.r2 hm, MO.r3 hm, MO.r4 hm, MO.r5 hm, MO.r6 hm, MO.r7 hm, MO.r8 hm, MO.r9 hm, MO.r10 hm, MO.r11 hm, MO.r12 hm, MO.r13 hm, h3, c1]
end BESTM
