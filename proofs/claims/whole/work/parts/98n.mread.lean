/-! The reader: a line, the lines, in the model. -/
section MREAD
variable {w u : jmW} {T : Nat → Int} {n h p : Nat} {H H2 : Nat → Nat → Int} {s : gSg} {l : Int}
theorem NBd.cg (nb : NBd H) (e3 : H2 0 3 = H 0 3) (e : ∀ k, H2 99 k = H 99 k) : NBd H2 := by
  intro k hk
  rw [e3] at hk
  rw [e k]
  exact nb k hk
theorem rd_nb {q : Nat} (hi : HI H) (nb : NBd H) {l : Int} (l0 : 0 ≤ l) (l9 : l ≤ 9) (hf : gFa H l = 0) (g : (gRd T n H l p).1 = .inl q) : NBd (gRd T n H l p).2 := by
  by_cases l0' : l = 0
  · subst l0'
    rw [rd_0]
    refine nb.cg ?_ (fun k => ?_)
    · show qHH T n H p 0 3 = _
      unfold qHH qhH
      rw [uH_n (by omega), uH_n (by omega), uH_n (by omega), uH_n (by omega), uH_n (by omega)]
    · show qHH T n H p 99 k = _
      unfold qHH qhH
      rw [uH_n (by omega), uH_n (by omega), uH_n (by omega), uH_n (by omega), uH_n (by omega)]
  by_cases l1' : l = 1
  · subst l1'
    rw [rd_1]
    exact nb.cg (show qRH T n H (H 0 2 * H 0 0).toNat p 0 3 = H 0 3 from (uH_n (by omega)).trans (gh_n (by omega))) (fun k => show qRH T n H (H 0 2 * H 0 0).toNat p 99 k = H 99 k from (uH_n (by omega)).trans (gh_n (by omega)))
  by_cases l2' : l = 2
  · subst l2'
    rw [rd_2]
    exact nb.cg (show qbH T n H (.inl p) 0 3 = H 0 3 from (uH_n (by omega)).trans (uH_n (by omega))) (fun k => show qbH T n H (.inl p) 99 k = H 99 k from (uH_n (by omega)).trans (uH_n (by omega)))
  by_cases l3' : l = 3
  · subst l3'
    rw [rd_3]
    exact nb.cg (show qmH T n H (.inl p) 0 3 = H 0 3 from uH_n (by omega)) (fun k => show qmH T n H (.inl p) 99 k = H 99 k from uH_n (by omega))
  by_cases l4' : l = 4
  · subst l4'
    rw [rd_4]
    exact nb.cg (stp_a _ _ _ _ _ (by omega)) (fun k => stp_a _ _ _ _ _ (by omega))
  by_cases l5' : l = 5
  · subst l5'
    rw [rd_5]
    exact nb.cg (qld_a _ _ (by omega)) (fun k => qld_a _ _ (by omega))
  by_cases l6' : l = 6
  · subst l6'
    rw [rd_6] at g ⊢
    obtain ⟨hj, h3, -, -⟩ := fo_6 hi hf
    have b := hj.2.1
    obtain ⟨a1, y7, -⟩ := pN_i g
    obtain ⟨a2, y6, -⟩ := pO_i y7
    obtain ⟨a3, y62, -⟩ := pN_i y6
    obtain ⟨a4, y63, -⟩ := pO_i y62
    obtain ⟨a5, y64, -⟩ := pN_i y63
    obtain ⟨a6, y65, -⟩ := pO_i y64
    obtain ⟨a7, y5, -⟩ := pO_i y65
    obtain ⟨a8, y4, -⟩ := pN_i y5
    obtain ⟨a9, y3, -⟩ := pO_i y4
    obtain ⟨b1', y2, -⟩ := gGd_i y3
    obtain ⟨y1, -⟩ := pB_i y2
    obtain ⟨b4, y0, -⟩ := pS_i y1
    obtain ⟨b5, x9, -⟩ := pN_i y0
    obtain ⟨b6, x8, -⟩ := pO_i x9
    have k1 : tK T n p = 1 := by
      unfold qt1 at x8
      by_cases z : tK T n p = 1 ∧ gWi (cs wLn) (tW T n p) 0 < 0
      · exact z.1
      · rw [if_neg z] at x8
        cases x8
    have tl := tw_lt k1
    have wb : 0 ≤ tW T n p ∧ tW T n p < 1099511627776 := cw_8 tl.2 tl.1
    intro k hk
    have e3 : qTH T n H p 0 3 = ((H 0 3).toNat : Int) + 1 := (uH_n (by omega)).trans (rowH_c (by omega))
    have hk : (k : Int) < qTH T n H p 0 3 := hk
    rw [e3] at hk
    show 0 ≤ qTH T n H p 99 k ∧ qTH T n H p 99 k < 1099511627776
    by_cases z : k = (H 0 3).toNat
    · have e : qTH T n H p 99 k = tW T n p := by
        rw [z]
        exact uH_s
      rw [e]
      exact wb
    · have e : qTH T n H p 99 k = H 99 k := (uH_n (by omega)).trans ((rowH_n (by omega) (by omega)).trans (uH_n (by omega)))
      rw [e]
      exact nb k (by omega)
  by_cases l7' : l = 7
  · subst l7'
    rw [rd_7]
    exact nb.cg (show qdH T n H (.inl p) 0 3 = H 0 3 from rowH_n (by omega) (by omega)) (fun k => show qdH T n H (.inl p) 99 k = H 99 k from rowH_n (by omega) (by omega))
  by_cases l8' : l = 8
  · subst l8'
    rw [rd_8]
    exact nb.cg (show qsH T n H p 0 3 = H 0 3 from (uH_n (by omega)).trans (uH_n (by omega))) (fun k => show qsH T n H p 99 k = H 99 k from (uH_n (by omega)).trans (uH_n (by omega)))
  have l9' : l = 9 := by omega
  subst l9'
  rw [rd_9]
  exact nb.cg (show qfH T n H (.inl p) 0 3 = H 0 3 from rowH_n (by omega) (by omega)) (fun k => show qfH T n H (.inl p) 99 k = H 99 k from rowH_n (by omega) (by omega))
/-- a line read by the model -/
def MLn (u : jmW) (T : Nat → Int) (n h p : Nat) (H : Nat → Nat → Int) : Prop := (∃ q, (gLn T n p H).1 = .inl q ∧ MS u T n h (gLn T n p H).2 (.inl q)) ∨ (∃ x H2, (gLn T n p H).1 = .inr x ∧ MS u T n h H2 (.inr x) ∧ HN H2)
theorem ml_fin (hl : pI T n (cs wLn) (.inl p) = l) (l0 : 0 ≤ l) (m : ML u T n h H p l) : MLn u T n h p H := by
  have eF : gLf T n H p = if pI T n (cs wLn) (.inl p) < 0 then 1 else gFa H (pI T n (cs wLn) (.inl p)) := rfl
  rw [hl, if_neg (by omega)] at eF
  have eL : gLn T n p H = if gLf T n H p = 0 then gRd T n H (pI T n (cs wLn) (.inl p)) (tE T n p) else (.inr (gLf T n H p, (tS T n p : Int)), H) := rfl
  rw [eF, hl] at eL
  unfold MLn
  rw [eL]
  rcases m with ⟨q, z, g, M⟩ | ⟨x, H2, g, M, hn⟩
  · rw [if_pos z]
    exact Or.inl ⟨q, g, M⟩
  · by_cases z : gFa H l = 0
    · rw [if_pos z] at g ⊢
      exact Or.inr ⟨x, H2, g, M, hn⟩
    · rw [if_neg z] at g ⊢
      exact Or.inr ⟨x, H2, g, M, hn⟩
theorem m_line (M : MS w T n h H (.inl p)) (hi : HI H) (nb : NBd H) (hp : p ≤ n) : ∃ u, rn 183 (0, [(0, jvr 238)], [], w) = some (none, u) ∧ Fln h w u ∧ MLn u T n h p H := by
  have a := M.a
  have eI := pi_ln (T := T) (n := n) (s := .inl p)
  have kk : ∀ c, gIs T n (.inl p) c = true → tK T n p = 1 := fun c z => (of_decide_eq_true (show decide (tK T n p = 1 ∧ tW T n p = c) = true from z)).1
  have w0 := ms_isWord M wm_16
  have w1 := ms_isWord M wm_21
  have w2 := ms_isWord M wm_22
  have w3 := ms_isWord M wm_23
  have w4 := ms_isWord M wm_24
  have w5 := ms_isWord M wm_25
  have w6 := ms_isWord M wm_35
  have w7 := ms_isWord M wm_36
  have w8 := ms_isWord M wm_37
  have w9 := ms_isWord M wm_38
  by_cases z0 : gIs T n (.inl p) (cD (gS2 "hall")) = true
  · rw [if_pos z0] at w0 eI
    obtain ⟨u, e, f, m⟩ := ml_0 M hi (kk _ z0)
    refine ⟨u, ?_, f, ml_fin eI (by omega) m⟩
    simp (disch := omega) only [p183_0, p183_1, p183_3, p183_6, p183_9, p183_10, p183_13, p183_16, p183_17, p183_19, p183_22, p183_25, p183_26, p183_29, p183_32, p183_33, p183_35, p183_38, p183_41, p183_42, p183_45, p183_48, p183_49, p183_51, p183_54, p183_57, p183_58, p183_61, p183_64, p183_65, p183_67, p183_70, p183_73, p183_74, p183_77, p183_80, p183_81, p183_83, p183_86, p183_89, p183_90, p183_93, p183_96, p183_97, p183_99, p183_102, p183_105, p183_106, p183_109, p183_112, p183_113, p183_115, p183_118, p183_121, p183_122, p183_125, p183_128, p183_129, p183_131, p183_134, p183_137, p183_138, p183_141, p183_144, p183_145, p183_147, p183_150, p183_153, p183_154, p183_157, p183_160, p183_161, p183_162, p183_165, jwd_c, jwd_0, Nat.reduceLeDiff, Nat.reduceEqDiff, Nat.reduceAdd, Nat.reduceSub, Nat.reduceMul, Int.reduceAdd, Int.reduceSub, Int.reduceMul, Int.reduceNeg, Int.reduceEq, Int.reduceLT, Int.reduceLE, jq_ldi_i, jq_ldl_l, jq_lda_a, jq_inc_i, jq_gs_t, jq_gsb_t, jq_gb_t, jq_gr_2, jq_gr_4, jq_gw_2, jq_s_t, jq_b_t, jg_c, jg_n, js_c, js_n, jrm_c, jrm_n, j2_i, j2_l, j2_a, jq_c_i, jq_c_l, jq_c_0, jq_c_n, jwd_le, jw_c0, mS_I, mS_R, mS_J, mN_I, mN_R, mN_J, mR_I, mI_R, mJ_I, mJ_R, mI_J, mR_J, ↓reduceIte, decide_true, or_true, true_or, and_self, false_or, or_false, reduceCtorEq, Bool.false_eq_true, and_false, false_and, eq_self, true_and, and_true, zero_ne, ↓br_lt_t, ↓br_lt_f, ↓br_eq_t, ↓br_eq_f, ↓br_lz_t, ↓br_lz_f, ↓br_ez_t, ↓br_ez_f, ↓br_gz_t, ↓br_gz_f, jw_id, jin_t, jix_t, ↓ite_t, ↓ite_f, a, w0, e]
  rw [if_neg z0] at w0 eI
  by_cases z1 : gIs T n (.inl p) (cD (gS2 "row")) = true
  · rw [if_pos z1] at w1 eI
    obtain ⟨u, e, f, m⟩ := ml_1 M hi (kk _ z1)
    refine ⟨u, ?_, f, ml_fin eI (by omega) m⟩
    simp (disch := omega) only [p183_0, p183_1, p183_3, p183_6, p183_9, p183_10, p183_13, p183_16, p183_17, p183_19, p183_22, p183_25, p183_26, p183_29, p183_32, p183_33, p183_35, p183_38, p183_41, p183_42, p183_45, p183_48, p183_49, p183_51, p183_54, p183_57, p183_58, p183_61, p183_64, p183_65, p183_67, p183_70, p183_73, p183_74, p183_77, p183_80, p183_81, p183_83, p183_86, p183_89, p183_90, p183_93, p183_96, p183_97, p183_99, p183_102, p183_105, p183_106, p183_109, p183_112, p183_113, p183_115, p183_118, p183_121, p183_122, p183_125, p183_128, p183_129, p183_131, p183_134, p183_137, p183_138, p183_141, p183_144, p183_145, p183_147, p183_150, p183_153, p183_154, p183_157, p183_160, p183_161, p183_162, p183_165, jwd_c, jwd_0, Nat.reduceLeDiff, Nat.reduceEqDiff, Nat.reduceAdd, Nat.reduceSub, Nat.reduceMul, Int.reduceAdd, Int.reduceSub, Int.reduceMul, Int.reduceNeg, Int.reduceEq, Int.reduceLT, Int.reduceLE, jq_ldi_i, jq_ldl_l, jq_lda_a, jq_inc_i, jq_gs_t, jq_gsb_t, jq_gb_t, jq_gr_2, jq_gr_4, jq_gw_2, jq_s_t, jq_b_t, jg_c, jg_n, js_c, js_n, jrm_c, jrm_n, j2_i, j2_l, j2_a, jq_c_i, jq_c_l, jq_c_0, jq_c_n, jwd_le, jw_c0, mS_I, mS_R, mS_J, mN_I, mN_R, mN_J, mR_I, mI_R, mJ_I, mJ_R, mI_J, mR_J, ↓reduceIte, decide_true, or_true, true_or, and_self, false_or, or_false, reduceCtorEq, Bool.false_eq_true, and_false, false_and, eq_self, true_and, and_true, zero_ne, ↓br_lt_t, ↓br_lt_f, ↓br_eq_t, ↓br_eq_f, ↓br_lz_t, ↓br_lz_f, ↓br_ez_t, ↓br_ez_f, ↓br_gz_t, ↓br_gz_f, jw_id, jin_t, jix_t, ↓ite_t, ↓ite_f, a, w0, w1, e]
  rw [if_neg z1] at w1 eI
  by_cases z2 : gIs T n (.inl p) (cD (gS2 "band")) = true
  · rw [if_pos z2] at w2 eI
    obtain ⟨u, e, f, m⟩ := ml_2 M hi (kk _ z2)
    refine ⟨u, ?_, f, ml_fin eI (by omega) m⟩
    simp (disch := omega) only [p183_0, p183_1, p183_3, p183_6, p183_9, p183_10, p183_13, p183_16, p183_17, p183_19, p183_22, p183_25, p183_26, p183_29, p183_32, p183_33, p183_35, p183_38, p183_41, p183_42, p183_45, p183_48, p183_49, p183_51, p183_54, p183_57, p183_58, p183_61, p183_64, p183_65, p183_67, p183_70, p183_73, p183_74, p183_77, p183_80, p183_81, p183_83, p183_86, p183_89, p183_90, p183_93, p183_96, p183_97, p183_99, p183_102, p183_105, p183_106, p183_109, p183_112, p183_113, p183_115, p183_118, p183_121, p183_122, p183_125, p183_128, p183_129, p183_131, p183_134, p183_137, p183_138, p183_141, p183_144, p183_145, p183_147, p183_150, p183_153, p183_154, p183_157, p183_160, p183_161, p183_162, p183_165, jwd_c, jwd_0, Nat.reduceLeDiff, Nat.reduceEqDiff, Nat.reduceAdd, Nat.reduceSub, Nat.reduceMul, Int.reduceAdd, Int.reduceSub, Int.reduceMul, Int.reduceNeg, Int.reduceEq, Int.reduceLT, Int.reduceLE, jq_ldi_i, jq_ldl_l, jq_lda_a, jq_inc_i, jq_gs_t, jq_gsb_t, jq_gb_t, jq_gr_2, jq_gr_4, jq_gw_2, jq_s_t, jq_b_t, jg_c, jg_n, js_c, js_n, jrm_c, jrm_n, j2_i, j2_l, j2_a, jq_c_i, jq_c_l, jq_c_0, jq_c_n, jwd_le, jw_c0, mS_I, mS_R, mS_J, mN_I, mN_R, mN_J, mR_I, mI_R, mJ_I, mJ_R, mI_J, mR_J, ↓reduceIte, decide_true, or_true, true_or, and_self, false_or, or_false, reduceCtorEq, Bool.false_eq_true, and_false, false_and, eq_self, true_and, and_true, zero_ne, ↓br_lt_t, ↓br_lt_f, ↓br_eq_t, ↓br_eq_f, ↓br_lz_t, ↓br_lz_f, ↓br_ez_t, ↓br_ez_f, ↓br_gz_t, ↓br_gz_f, jw_id, jin_t, jix_t, ↓ite_t, ↓ite_f, a, w0, w1, w2, e]
  rw [if_neg z2] at w2 eI
  by_cases z3 : gIs T n (.inl p) (cD (gS2 "home")) = true
  · rw [if_pos z3] at w3 eI
    obtain ⟨u, e, f, m⟩ := ml_3 M hi (kk _ z3)
    refine ⟨u, ?_, f, ml_fin eI (by omega) m⟩
    simp (disch := omega) only [p183_0, p183_1, p183_3, p183_6, p183_9, p183_10, p183_13, p183_16, p183_17, p183_19, p183_22, p183_25, p183_26, p183_29, p183_32, p183_33, p183_35, p183_38, p183_41, p183_42, p183_45, p183_48, p183_49, p183_51, p183_54, p183_57, p183_58, p183_61, p183_64, p183_65, p183_67, p183_70, p183_73, p183_74, p183_77, p183_80, p183_81, p183_83, p183_86, p183_89, p183_90, p183_93, p183_96, p183_97, p183_99, p183_102, p183_105, p183_106, p183_109, p183_112, p183_113, p183_115, p183_118, p183_121, p183_122, p183_125, p183_128, p183_129, p183_131, p183_134, p183_137, p183_138, p183_141, p183_144, p183_145, p183_147, p183_150, p183_153, p183_154, p183_157, p183_160, p183_161, p183_162, p183_165, jwd_c, jwd_0, Nat.reduceLeDiff, Nat.reduceEqDiff, Nat.reduceAdd, Nat.reduceSub, Nat.reduceMul, Int.reduceAdd, Int.reduceSub, Int.reduceMul, Int.reduceNeg, Int.reduceEq, Int.reduceLT, Int.reduceLE, jq_ldi_i, jq_ldl_l, jq_lda_a, jq_inc_i, jq_gs_t, jq_gsb_t, jq_gb_t, jq_gr_2, jq_gr_4, jq_gw_2, jq_s_t, jq_b_t, jg_c, jg_n, js_c, js_n, jrm_c, jrm_n, j2_i, j2_l, j2_a, jq_c_i, jq_c_l, jq_c_0, jq_c_n, jwd_le, jw_c0, mS_I, mS_R, mS_J, mN_I, mN_R, mN_J, mR_I, mI_R, mJ_I, mJ_R, mI_J, mR_J, ↓reduceIte, decide_true, or_true, true_or, and_self, false_or, or_false, reduceCtorEq, Bool.false_eq_true, and_false, false_and, eq_self, true_and, and_true, zero_ne, ↓br_lt_t, ↓br_lt_f, ↓br_eq_t, ↓br_eq_f, ↓br_lz_t, ↓br_lz_f, ↓br_ez_t, ↓br_ez_f, ↓br_gz_t, ↓br_gz_f, jw_id, jin_t, jix_t, ↓ite_t, ↓ite_f, a, w0, w1, w2, w3, e]
  rw [if_neg z3] at w3 eI
  by_cases z4 : gIs T n (.inl p) (cD (gS2 "steps")) = true
  · rw [if_pos z4] at w4 eI
    obtain ⟨u, e, f, m⟩ := ml_4 M hi (kk _ z4) hp
    refine ⟨u, ?_, f, ml_fin eI (by omega) m⟩
    simp (disch := omega) only [p183_0, p183_1, p183_3, p183_6, p183_9, p183_10, p183_13, p183_16, p183_17, p183_19, p183_22, p183_25, p183_26, p183_29, p183_32, p183_33, p183_35, p183_38, p183_41, p183_42, p183_45, p183_48, p183_49, p183_51, p183_54, p183_57, p183_58, p183_61, p183_64, p183_65, p183_67, p183_70, p183_73, p183_74, p183_77, p183_80, p183_81, p183_83, p183_86, p183_89, p183_90, p183_93, p183_96, p183_97, p183_99, p183_102, p183_105, p183_106, p183_109, p183_112, p183_113, p183_115, p183_118, p183_121, p183_122, p183_125, p183_128, p183_129, p183_131, p183_134, p183_137, p183_138, p183_141, p183_144, p183_145, p183_147, p183_150, p183_153, p183_154, p183_157, p183_160, p183_161, p183_162, p183_165, jwd_c, jwd_0, Nat.reduceLeDiff, Nat.reduceEqDiff, Nat.reduceAdd, Nat.reduceSub, Nat.reduceMul, Int.reduceAdd, Int.reduceSub, Int.reduceMul, Int.reduceNeg, Int.reduceEq, Int.reduceLT, Int.reduceLE, jq_ldi_i, jq_ldl_l, jq_lda_a, jq_inc_i, jq_gs_t, jq_gsb_t, jq_gb_t, jq_gr_2, jq_gr_4, jq_gw_2, jq_s_t, jq_b_t, jg_c, jg_n, js_c, js_n, jrm_c, jrm_n, j2_i, j2_l, j2_a, jq_c_i, jq_c_l, jq_c_0, jq_c_n, jwd_le, jw_c0, mS_I, mS_R, mS_J, mN_I, mN_R, mN_J, mR_I, mI_R, mJ_I, mJ_R, mI_J, mR_J, ↓reduceIte, decide_true, or_true, true_or, and_self, false_or, or_false, reduceCtorEq, Bool.false_eq_true, and_false, false_and, eq_self, true_and, and_true, zero_ne, ↓br_lt_t, ↓br_lt_f, ↓br_eq_t, ↓br_eq_f, ↓br_lz_t, ↓br_lz_f, ↓br_ez_t, ↓br_ez_f, ↓br_gz_t, ↓br_gz_f, jw_id, jin_t, jix_t, ↓ite_t, ↓ite_f, a, w0, w1, w2, w3, w4, e]
  rw [if_neg z4] at w4 eI
  by_cases z5 : gIs T n (.inl p) (cD (gS2 "leads")) = true
  · rw [if_pos z5] at w5 eI
    obtain ⟨u, e, f, m⟩ := ml_5 M hi (kk _ z5) hp
    refine ⟨u, ?_, f, ml_fin eI (by omega) m⟩
    simp (disch := omega) only [p183_0, p183_1, p183_3, p183_6, p183_9, p183_10, p183_13, p183_16, p183_17, p183_19, p183_22, p183_25, p183_26, p183_29, p183_32, p183_33, p183_35, p183_38, p183_41, p183_42, p183_45, p183_48, p183_49, p183_51, p183_54, p183_57, p183_58, p183_61, p183_64, p183_65, p183_67, p183_70, p183_73, p183_74, p183_77, p183_80, p183_81, p183_83, p183_86, p183_89, p183_90, p183_93, p183_96, p183_97, p183_99, p183_102, p183_105, p183_106, p183_109, p183_112, p183_113, p183_115, p183_118, p183_121, p183_122, p183_125, p183_128, p183_129, p183_131, p183_134, p183_137, p183_138, p183_141, p183_144, p183_145, p183_147, p183_150, p183_153, p183_154, p183_157, p183_160, p183_161, p183_162, p183_165, jwd_c, jwd_0, Nat.reduceLeDiff, Nat.reduceEqDiff, Nat.reduceAdd, Nat.reduceSub, Nat.reduceMul, Int.reduceAdd, Int.reduceSub, Int.reduceMul, Int.reduceNeg, Int.reduceEq, Int.reduceLT, Int.reduceLE, jq_ldi_i, jq_ldl_l, jq_lda_a, jq_inc_i, jq_gs_t, jq_gsb_t, jq_gb_t, jq_gr_2, jq_gr_4, jq_gw_2, jq_s_t, jq_b_t, jg_c, jg_n, js_c, js_n, jrm_c, jrm_n, j2_i, j2_l, j2_a, jq_c_i, jq_c_l, jq_c_0, jq_c_n, jwd_le, jw_c0, mS_I, mS_R, mS_J, mN_I, mN_R, mN_J, mR_I, mI_R, mJ_I, mJ_R, mI_J, mR_J, ↓reduceIte, decide_true, or_true, true_or, and_self, false_or, or_false, reduceCtorEq, Bool.false_eq_true, and_false, false_and, eq_self, true_and, and_true, zero_ne, ↓br_lt_t, ↓br_lt_f, ↓br_eq_t, ↓br_eq_f, ↓br_lz_t, ↓br_lz_f, ↓br_ez_t, ↓br_ez_f, ↓br_gz_t, ↓br_gz_f, jw_id, jin_t, jix_t, ↓ite_t, ↓ite_f, a, w0, w1, w2, w3, w4, w5, e]
  rw [if_neg z5] at w5 eI
  by_cases z6 : gIs T n (.inl p) (cD (gS2 "table")) = true
  · rw [if_pos z6] at w6 eI
    obtain ⟨u, e, f, m⟩ := ml_6 M hi (kk _ z6) nb
    refine ⟨u, ?_, f, ml_fin eI (by omega) m⟩
    simp (disch := omega) only [p183_0, p183_1, p183_3, p183_6, p183_9, p183_10, p183_13, p183_16, p183_17, p183_19, p183_22, p183_25, p183_26, p183_29, p183_32, p183_33, p183_35, p183_38, p183_41, p183_42, p183_45, p183_48, p183_49, p183_51, p183_54, p183_57, p183_58, p183_61, p183_64, p183_65, p183_67, p183_70, p183_73, p183_74, p183_77, p183_80, p183_81, p183_83, p183_86, p183_89, p183_90, p183_93, p183_96, p183_97, p183_99, p183_102, p183_105, p183_106, p183_109, p183_112, p183_113, p183_115, p183_118, p183_121, p183_122, p183_125, p183_128, p183_129, p183_131, p183_134, p183_137, p183_138, p183_141, p183_144, p183_145, p183_147, p183_150, p183_153, p183_154, p183_157, p183_160, p183_161, p183_162, p183_165, jwd_c, jwd_0, Nat.reduceLeDiff, Nat.reduceEqDiff, Nat.reduceAdd, Nat.reduceSub, Nat.reduceMul, Int.reduceAdd, Int.reduceSub, Int.reduceMul, Int.reduceNeg, Int.reduceEq, Int.reduceLT, Int.reduceLE, jq_ldi_i, jq_ldl_l, jq_lda_a, jq_inc_i, jq_gs_t, jq_gsb_t, jq_gb_t, jq_gr_2, jq_gr_4, jq_gw_2, jq_s_t, jq_b_t, jg_c, jg_n, js_c, js_n, jrm_c, jrm_n, j2_i, j2_l, j2_a, jq_c_i, jq_c_l, jq_c_0, jq_c_n, jwd_le, jw_c0, mS_I, mS_R, mS_J, mN_I, mN_R, mN_J, mR_I, mI_R, mJ_I, mJ_R, mI_J, mR_J, ↓reduceIte, decide_true, or_true, true_or, and_self, false_or, or_false, reduceCtorEq, Bool.false_eq_true, and_false, false_and, eq_self, true_and, and_true, zero_ne, ↓br_lt_t, ↓br_lt_f, ↓br_eq_t, ↓br_eq_f, ↓br_lz_t, ↓br_lz_f, ↓br_ez_t, ↓br_ez_f, ↓br_gz_t, ↓br_gz_f, jw_id, jin_t, jix_t, ↓ite_t, ↓ite_f, a, w0, w1, w2, w3, w4, w5, w6, e]
  rw [if_neg z6] at w6 eI
  by_cases z7 : gIs T n (.inl p) (cD (gS2 "dancer")) = true
  · rw [if_pos z7] at w7 eI
    obtain ⟨u, e, f, m⟩ := ml_7 M hi (kk _ z7)
    refine ⟨u, ?_, f, ml_fin eI (by omega) m⟩
    simp (disch := omega) only [p183_0, p183_1, p183_3, p183_6, p183_9, p183_10, p183_13, p183_16, p183_17, p183_19, p183_22, p183_25, p183_26, p183_29, p183_32, p183_33, p183_35, p183_38, p183_41, p183_42, p183_45, p183_48, p183_49, p183_51, p183_54, p183_57, p183_58, p183_61, p183_64, p183_65, p183_67, p183_70, p183_73, p183_74, p183_77, p183_80, p183_81, p183_83, p183_86, p183_89, p183_90, p183_93, p183_96, p183_97, p183_99, p183_102, p183_105, p183_106, p183_109, p183_112, p183_113, p183_115, p183_118, p183_121, p183_122, p183_125, p183_128, p183_129, p183_131, p183_134, p183_137, p183_138, p183_141, p183_144, p183_145, p183_147, p183_150, p183_153, p183_154, p183_157, p183_160, p183_161, p183_162, p183_165, jwd_c, jwd_0, Nat.reduceLeDiff, Nat.reduceEqDiff, Nat.reduceAdd, Nat.reduceSub, Nat.reduceMul, Int.reduceAdd, Int.reduceSub, Int.reduceMul, Int.reduceNeg, Int.reduceEq, Int.reduceLT, Int.reduceLE, jq_ldi_i, jq_ldl_l, jq_lda_a, jq_inc_i, jq_gs_t, jq_gsb_t, jq_gb_t, jq_gr_2, jq_gr_4, jq_gw_2, jq_s_t, jq_b_t, jg_c, jg_n, js_c, js_n, jrm_c, jrm_n, j2_i, j2_l, j2_a, jq_c_i, jq_c_l, jq_c_0, jq_c_n, jwd_le, jw_c0, mS_I, mS_R, mS_J, mN_I, mN_R, mN_J, mR_I, mI_R, mJ_I, mJ_R, mI_J, mR_J, ↓reduceIte, decide_true, or_true, true_or, and_self, false_or, or_false, reduceCtorEq, Bool.false_eq_true, and_false, false_and, eq_self, true_and, and_true, zero_ne, ↓br_lt_t, ↓br_lt_f, ↓br_eq_t, ↓br_eq_f, ↓br_lz_t, ↓br_lz_f, ↓br_ez_t, ↓br_ez_f, ↓br_gz_t, ↓br_gz_f, jw_id, jin_t, jix_t, ↓ite_t, ↓ite_f, a, w0, w1, w2, w3, w4, w5, w6, w7, e]
  rw [if_neg z7] at w7 eI
  by_cases z8 : gIs T n (.inl p) (cD (gS2 "snake")) = true
  · rw [if_pos z8] at w8 eI
    obtain ⟨u, e, f, m⟩ := ml_8 M hi (kk _ z8)
    refine ⟨u, ?_, f, ml_fin eI (by omega) m⟩
    simp (disch := omega) only [p183_0, p183_1, p183_3, p183_6, p183_9, p183_10, p183_13, p183_16, p183_17, p183_19, p183_22, p183_25, p183_26, p183_29, p183_32, p183_33, p183_35, p183_38, p183_41, p183_42, p183_45, p183_48, p183_49, p183_51, p183_54, p183_57, p183_58, p183_61, p183_64, p183_65, p183_67, p183_70, p183_73, p183_74, p183_77, p183_80, p183_81, p183_83, p183_86, p183_89, p183_90, p183_93, p183_96, p183_97, p183_99, p183_102, p183_105, p183_106, p183_109, p183_112, p183_113, p183_115, p183_118, p183_121, p183_122, p183_125, p183_128, p183_129, p183_131, p183_134, p183_137, p183_138, p183_141, p183_144, p183_145, p183_147, p183_150, p183_153, p183_154, p183_157, p183_160, p183_161, p183_162, p183_165, jwd_c, jwd_0, Nat.reduceLeDiff, Nat.reduceEqDiff, Nat.reduceAdd, Nat.reduceSub, Nat.reduceMul, Int.reduceAdd, Int.reduceSub, Int.reduceMul, Int.reduceNeg, Int.reduceEq, Int.reduceLT, Int.reduceLE, jq_ldi_i, jq_ldl_l, jq_lda_a, jq_inc_i, jq_gs_t, jq_gsb_t, jq_gb_t, jq_gr_2, jq_gr_4, jq_gw_2, jq_s_t, jq_b_t, jg_c, jg_n, js_c, js_n, jrm_c, jrm_n, j2_i, j2_l, j2_a, jq_c_i, jq_c_l, jq_c_0, jq_c_n, jwd_le, jw_c0, mS_I, mS_R, mS_J, mN_I, mN_R, mN_J, mR_I, mI_R, mJ_I, mJ_R, mI_J, mR_J, ↓reduceIte, decide_true, or_true, true_or, and_self, false_or, or_false, reduceCtorEq, Bool.false_eq_true, and_false, false_and, eq_self, true_and, and_true, zero_ne, ↓br_lt_t, ↓br_lt_f, ↓br_eq_t, ↓br_eq_f, ↓br_lz_t, ↓br_lz_f, ↓br_ez_t, ↓br_ez_f, ↓br_gz_t, ↓br_gz_f, jw_id, jin_t, jix_t, ↓ite_t, ↓ite_f, a, w0, w1, w2, w3, w4, w5, w6, w7, w8, e]
  rw [if_neg z8] at w8 eI
  by_cases z9 : gIs T n (.inl p) (cD (gS2 "frame")) = true
  · rw [if_pos z9] at w9 eI
    obtain ⟨u, e, f, m⟩ := ml_9 M hi (kk _ z9)
    refine ⟨u, ?_, f, ml_fin eI (by omega) m⟩
    simp (disch := omega) only [p183_0, p183_1, p183_3, p183_6, p183_9, p183_10, p183_13, p183_16, p183_17, p183_19, p183_22, p183_25, p183_26, p183_29, p183_32, p183_33, p183_35, p183_38, p183_41, p183_42, p183_45, p183_48, p183_49, p183_51, p183_54, p183_57, p183_58, p183_61, p183_64, p183_65, p183_67, p183_70, p183_73, p183_74, p183_77, p183_80, p183_81, p183_83, p183_86, p183_89, p183_90, p183_93, p183_96, p183_97, p183_99, p183_102, p183_105, p183_106, p183_109, p183_112, p183_113, p183_115, p183_118, p183_121, p183_122, p183_125, p183_128, p183_129, p183_131, p183_134, p183_137, p183_138, p183_141, p183_144, p183_145, p183_147, p183_150, p183_153, p183_154, p183_157, p183_160, p183_161, p183_162, p183_165, jwd_c, jwd_0, Nat.reduceLeDiff, Nat.reduceEqDiff, Nat.reduceAdd, Nat.reduceSub, Nat.reduceMul, Int.reduceAdd, Int.reduceSub, Int.reduceMul, Int.reduceNeg, Int.reduceEq, Int.reduceLT, Int.reduceLE, jq_ldi_i, jq_ldl_l, jq_lda_a, jq_inc_i, jq_gs_t, jq_gsb_t, jq_gb_t, jq_gr_2, jq_gr_4, jq_gw_2, jq_s_t, jq_b_t, jg_c, jg_n, js_c, js_n, jrm_c, jrm_n, j2_i, j2_l, j2_a, jq_c_i, jq_c_l, jq_c_0, jq_c_n, jwd_le, jw_c0, mS_I, mS_R, mS_J, mN_I, mN_R, mN_J, mR_I, mI_R, mJ_I, mJ_R, mI_J, mR_J, ↓reduceIte, decide_true, or_true, true_or, and_self, false_or, or_false, reduceCtorEq, Bool.false_eq_true, and_false, false_and, eq_self, true_and, and_true, zero_ne, ↓br_lt_t, ↓br_lt_f, ↓br_eq_t, ↓br_eq_f, ↓br_lz_t, ↓br_lz_f, ↓br_ez_t, ↓br_ez_f, ↓br_gz_t, ↓br_gz_f, jw_id, jin_t, jix_t, ↓ite_t, ↓ite_f, a, w0, w1, w2, w3, w4, w5, w6, w7, w8, w9, e]
  rw [if_neg z9] at w9 eI
  obtain ⟨u, e, M2, f⟩ := ms_flaw M (f := 1)
  have eF : gLf T n H p = if pI T n (cs wLn) (.inl p) < 0 then 1 else gFa H (pI T n (cs wLn) (.inl p)) := rfl
  rw [eI, if_pos (by omega)] at eF
  have eL : gLn T n p H = if gLf T n H p = 0 then gRd T n H (pI T n (cs wLn) (.inl p)) (tE T n p) else (.inr (gLf T n H p, (tS T n p : Int)), H) := rfl
  rw [eF, if_neg (by decide)] at eL
  refine ⟨u, ?_, f.ln, Or.inr ⟨_, H, by rw [eL], M2, hi.hn⟩⟩
  simp (disch := omega) only [p183_0, p183_1, p183_3, p183_6, p183_9, p183_10, p183_13, p183_16, p183_17, p183_19, p183_22, p183_25, p183_26, p183_29, p183_32, p183_33, p183_35, p183_38, p183_41, p183_42, p183_45, p183_48, p183_49, p183_51, p183_54, p183_57, p183_58, p183_61, p183_64, p183_65, p183_67, p183_70, p183_73, p183_74, p183_77, p183_80, p183_81, p183_83, p183_86, p183_89, p183_90, p183_93, p183_96, p183_97, p183_99, p183_102, p183_105, p183_106, p183_109, p183_112, p183_113, p183_115, p183_118, p183_121, p183_122, p183_125, p183_128, p183_129, p183_131, p183_134, p183_137, p183_138, p183_141, p183_144, p183_145, p183_147, p183_150, p183_153, p183_154, p183_157, p183_160, p183_161, p183_162, p183_165, jwd_c, jwd_0, Nat.reduceLeDiff, Nat.reduceEqDiff, Nat.reduceAdd, Nat.reduceSub, Nat.reduceMul, Int.reduceAdd, Int.reduceSub, Int.reduceMul, Int.reduceNeg, Int.reduceEq, Int.reduceLT, Int.reduceLE, jq_ldi_i, jq_ldl_l, jq_lda_a, jq_inc_i, jq_gs_t, jq_gsb_t, jq_gb_t, jq_gr_2, jq_gr_4, jq_gw_2, jq_s_t, jq_b_t, jg_c, jg_n, js_c, js_n, jrm_c, jrm_n, j2_i, j2_l, j2_a, jq_c_i, jq_c_l, jq_c_0, jq_c_n, jwd_le, jw_c0, mS_I, mS_R, mS_J, mN_I, mN_R, mN_J, mR_I, mI_R, mJ_I, mJ_R, mI_J, mR_J, ↓reduceIte, decide_true, or_true, true_or, and_self, false_or, or_false, reduceCtorEq, Bool.false_eq_true, and_false, false_and, eq_self, true_and, and_true, zero_ne, ↓br_lt_t, ↓br_lt_f, ↓br_eq_t, ↓br_eq_f, ↓br_lz_t, ↓br_lz_f, ↓br_ez_t, ↓br_ez_f, ↓br_gz_t, ↓br_gz_f, jw_id, jin_t, jix_t, ↓ite_t, ↓ite_f, a, w0, w1, w2, w3, w4, w5, w6, w7, w8, w9, e]
theorem ln_i {q : Nat} (hi : HI H) (nb : NBd H) (hp : p ≤ n) (g : (gLn T n p H).1 = .inl q) : HJ (gLn T n p H).2 ∧ NBd (gLn T n p H).2 ∧ p < q ∧ q ≤ n := by
  have eL : gLn T n p H = if gLf T n H p = 0 then gRd T n H (pI T n (cs wLn) (.inl p)) (tE T n p) else (.inr (gLf T n H p, (tS T n p : Int)), H) := rfl
  have eF : gLf T n H p = if pI T n (cs wLn) (.inl p) < 0 then 1 else gFa H (pI T n (cs wLn) (.inl p)) := rfl
  have eI : pI T n (cs wLn) (.inl p) = if tK T n p = 1 then gWi (cs wLn) (tW T n p) 0 else -1 := rfl
  have b6 := wi_bd (cs wLn) (tW T n p) 0 (by omega)
  have l6 : ((cs wLn).length : Int) = 10 := rfl
  by_cases z : gLf T n H p = 0
  · rw [if_pos z] at eL
    have l0 : 0 ≤ pI T n (cs wLn) (.inl p) := by
      by_cases y : pI T n (cs wLn) (.inl p) < 0
      · rw [if_pos y] at eF
        omega
      · omega
    rw [if_neg (by omega)] at eF
    have k1 := pi_k l0
    rw [if_pos k1] at eI
    rw [eL] at g ⊢
    have tb := tke_bd (T := T) hp
    have sb := ts_bd (T := T) hp
    have t2 := tb.2.2 (by omega)
    have r := rd_hj hi l0 (by omega) (by omega) tb.2.1 g
    exact ⟨r.1, rd_nb hi nb l0 (by omega) (by omega) g, by omega, r.2.2⟩
  · rw [if_neg z] at eL
    rw [eL] at g
    cases g
theorem tk5 {q : Nat} (hq : q ≤ n) (h : tK T n q = 5) : tS T n q = n := by
  have sb := ts_bd (T := T) hq
  have so := so_bd (T (tS T n q))
  unfold tK at h
  by_cases z : n ≤ tS T n q
  · omega
  · rw [if_neg z] at h
    (repeat' split at h) <;> omega
/-- the end: what is lacking -/
theorem m_end {lv : jmL} (M : MS w T n h H s) (hn : HN H) (l0 : jg lv 0 = some (jvr 238)) : ∃ u, rn 182 (33, lv, [], w) = some (none, u) ∧ Ftk w u ∧ MS u T n h H (if H 0 5 = 0 ∨ H 0 7 = -1 ∨ H 0 13 = -2 then pF T n 6 s else s) := by
  obtain ⟨n1, n2, n3, n4⟩ := hn
  rw [p182_33]
  obtain ⟨u, e, M2, f⟩ := ms_flaw M (f := 6)
  by_cases z1 : H 0 5 = 0
  · rw [if_pos (Or.inl z1)]
    refine ⟨u, ?_, f, M2⟩
    simp (disch := omega) only [p182_0, p182_1, p182_3, p182_6, p182_7, p182_10, p182_11, p182_13, p182_16, p182_17, p182_20, p182_21, p182_24, p182_25, p182_28, p182_29, p182_30, p182_34, p182_37, p182_40, p182_43, p182_44, p182_47, p182_50, p182_51, p182_54, p182_55, p182_58, p182_61, p182_63, p182_66, p182_67, p182_69, p182_72, jwd_c, jwd_0, Nat.reduceLeDiff, Nat.reduceEqDiff, Nat.reduceAdd, Nat.reduceSub, Nat.reduceMul, Int.reduceAdd, Int.reduceSub, Int.reduceMul, Int.reduceNeg, Int.reduceEq, Int.reduceLT, Int.reduceLE, jq_ldi_i, jq_ldl_l, jq_lda_a, jq_inc_i, jq_gs_t, jq_gsb_t, jq_gb_t, jq_gr_2, jq_gr_4, jq_gw_2, jq_s_t, jq_b_t, jg_c, jg_n, js_c, js_n, jrm_c, jrm_n, j2_i, j2_l, j2_a, jq_c_i, jq_c_l, jq_c_0, jq_c_n, jwd_le, jw_c0, mS_I, mS_R, mS_J, mN_I, mN_R, mN_J, mR_I, mI_R, mJ_I, mJ_R, mI_J, mR_J, ↓reduceIte, decide_true, or_true, true_or, and_self, false_or, or_false, reduceCtorEq, Bool.false_eq_true, and_false, false_and, eq_self, true_and, and_true, zero_ne, ↓br_lt_t, ↓br_lt_f, ↓br_eq_t, ↓br_eq_f, ↓br_lz_t, ↓br_lz_f, ↓br_ez_t, ↓br_ez_f, ↓br_gz_t, ↓br_gz_f, jw_id, jin_t, jix_t, ↓ite_t, ↓ite_f, MS.a M, MS.r4 M, MS.b M, MS.f0 M, MS.f1 M, MS.f2 M, MS.f3 M, MS.f4 M, MS.f5 M, MS.f6 M, MS.f7 M, MS.f8 M, MS.f10 M, MS.f12 M, MS.f13 M, l0, e]
  · by_cases z2 : H 0 7 = -1
    · rw [if_pos (Or.inr (Or.inl z2))]
      refine ⟨u, ?_, f, M2⟩
      simp (disch := omega) only [p182_0, p182_1, p182_3, p182_6, p182_7, p182_10, p182_11, p182_13, p182_16, p182_17, p182_20, p182_21, p182_24, p182_25, p182_28, p182_29, p182_30, p182_34, p182_37, p182_40, p182_43, p182_44, p182_47, p182_50, p182_51, p182_54, p182_55, p182_58, p182_61, p182_63, p182_66, p182_67, p182_69, p182_72, jwd_c, jwd_0, Nat.reduceLeDiff, Nat.reduceEqDiff, Nat.reduceAdd, Nat.reduceSub, Nat.reduceMul, Int.reduceAdd, Int.reduceSub, Int.reduceMul, Int.reduceNeg, Int.reduceEq, Int.reduceLT, Int.reduceLE, jq_ldi_i, jq_ldl_l, jq_lda_a, jq_inc_i, jq_gs_t, jq_gsb_t, jq_gb_t, jq_gr_2, jq_gr_4, jq_gw_2, jq_s_t, jq_b_t, jg_c, jg_n, js_c, js_n, jrm_c, jrm_n, j2_i, j2_l, j2_a, jq_c_i, jq_c_l, jq_c_0, jq_c_n, jwd_le, jw_c0, mS_I, mS_R, mS_J, mN_I, mN_R, mN_J, mR_I, mI_R, mJ_I, mJ_R, mI_J, mR_J, ↓reduceIte, decide_true, or_true, true_or, and_self, false_or, or_false, reduceCtorEq, Bool.false_eq_true, and_false, false_and, eq_self, true_and, and_true, zero_ne, ↓br_lt_t, ↓br_lt_f, ↓br_eq_t, ↓br_eq_f, ↓br_lz_t, ↓br_lz_f, ↓br_ez_t, ↓br_ez_f, ↓br_gz_t, ↓br_gz_f, jw_id, jin_t, jix_t, ↓ite_t, ↓ite_f, MS.a M, MS.r4 M, MS.b M, MS.f0 M, MS.f1 M, MS.f2 M, MS.f3 M, MS.f4 M, MS.f5 M, MS.f6 M, MS.f7 M, MS.f8 M, MS.f10 M, MS.f12 M, MS.f13 M, l0, e]
    · by_cases z3 : H 0 13 = -2
      · rw [if_pos (Or.inr (Or.inr z3))]
        refine ⟨u, ?_, f, M2⟩
        simp (disch := omega) only [p182_0, p182_1, p182_3, p182_6, p182_7, p182_10, p182_11, p182_13, p182_16, p182_17, p182_20, p182_21, p182_24, p182_25, p182_28, p182_29, p182_30, p182_34, p182_37, p182_40, p182_43, p182_44, p182_47, p182_50, p182_51, p182_54, p182_55, p182_58, p182_61, p182_63, p182_66, p182_67, p182_69, p182_72, jwd_c, jwd_0, Nat.reduceLeDiff, Nat.reduceEqDiff, Nat.reduceAdd, Nat.reduceSub, Nat.reduceMul, Int.reduceAdd, Int.reduceSub, Int.reduceMul, Int.reduceNeg, Int.reduceEq, Int.reduceLT, Int.reduceLE, jq_ldi_i, jq_ldl_l, jq_lda_a, jq_inc_i, jq_gs_t, jq_gsb_t, jq_gb_t, jq_gr_2, jq_gr_4, jq_gw_2, jq_s_t, jq_b_t, jg_c, jg_n, js_c, js_n, jrm_c, jrm_n, j2_i, j2_l, j2_a, jq_c_i, jq_c_l, jq_c_0, jq_c_n, jwd_le, jw_c0, mS_I, mS_R, mS_J, mN_I, mN_R, mN_J, mR_I, mI_R, mJ_I, mJ_R, mI_J, mR_J, ↓reduceIte, decide_true, or_true, true_or, and_self, false_or, or_false, reduceCtorEq, Bool.false_eq_true, and_false, false_and, eq_self, true_and, and_true, zero_ne, ↓br_lt_t, ↓br_lt_f, ↓br_eq_t, ↓br_eq_f, ↓br_lz_t, ↓br_lz_f, ↓br_ez_t, ↓br_ez_f, ↓br_gz_t, ↓br_gz_f, jw_id, jin_t, jix_t, ↓ite_t, ↓ite_f, MS.a M, MS.r4 M, MS.b M, MS.f0 M, MS.f1 M, MS.f2 M, MS.f3 M, MS.f4 M, MS.f5 M, MS.f6 M, MS.f7 M, MS.f8 M, MS.f10 M, MS.f12 M, MS.f13 M, l0, e]
      · rw [if_neg (by omega)]
        refine ⟨w, ?_, Ftk.rf, M⟩
        simp (disch := omega) only [p182_0, p182_1, p182_3, p182_6, p182_7, p182_10, p182_11, p182_13, p182_16, p182_17, p182_20, p182_21, p182_24, p182_25, p182_28, p182_29, p182_30, p182_34, p182_37, p182_40, p182_43, p182_44, p182_47, p182_50, p182_51, p182_54, p182_55, p182_58, p182_61, p182_63, p182_66, p182_67, p182_69, p182_72, jwd_c, jwd_0, Nat.reduceLeDiff, Nat.reduceEqDiff, Nat.reduceAdd, Nat.reduceSub, Nat.reduceMul, Int.reduceAdd, Int.reduceSub, Int.reduceMul, Int.reduceNeg, Int.reduceEq, Int.reduceLT, Int.reduceLE, jq_ldi_i, jq_ldl_l, jq_lda_a, jq_inc_i, jq_gs_t, jq_gsb_t, jq_gb_t, jq_gr_2, jq_gr_4, jq_gw_2, jq_s_t, jq_b_t, jg_c, jg_n, js_c, js_n, jrm_c, jrm_n, j2_i, j2_l, j2_a, jq_c_i, jq_c_l, jq_c_0, jq_c_n, jwd_le, jw_c0, mS_I, mS_R, mS_J, mN_I, mN_R, mN_J, mR_I, mI_R, mJ_I, mJ_R, mI_J, mR_J, ↓reduceIte, decide_true, or_true, true_or, and_self, false_or, or_false, reduceCtorEq, Bool.false_eq_true, and_false, false_and, eq_self, true_and, and_true, zero_ne, ↓br_lt_t, ↓br_lt_f, ↓br_eq_t, ↓br_eq_f, ↓br_lz_t, ↓br_lz_f, ↓br_ez_t, ↓br_ez_f, ↓br_gz_t, ↓br_gz_f, jw_id, jin_t, jix_t, ↓ite_t, ↓ite_f, MS.a M, MS.r4 M, MS.b M, MS.f0 M, MS.f1 M, MS.f2 M, MS.f3 M, MS.f4 M, MS.f5 M, MS.f6 M, MS.f7 M, MS.f8 M, MS.f10 M, MS.f12 M, MS.f13 M, l0]
theorem m_lp : ∀ (m p i : Nat) (w : jmW) (H : Nat → Nat → Int), i + m = n + 1 → i ≤ p → p ≤ n → MS w T n h H (.inl p) → HI H → NBd H → ∃ u, rn 182 (2, [(0, jvr 238), (1, .inl 1)], [], w) = some (none, u) ∧ Fln h w u ∧ ((∃ q, (gRead T n m p H).1 = .inl q ∧ MS u T n h (gRead T n m p H).2 (.inl q)) ∨ (∃ x H2, (gRead T n m p H).1 = .inr x ∧ MS u T n h H2 (.inr x))) := by
  intro m
  induction m with
  | zero =>
    intro p i w H hi1 hi2 hp
    omega
  | succ m ih =>
    intro p i w H hi1 hi2 hp M hI nb
    have e : gRead T n (m + 1) p H = (match gLn T n p H with
      | (.inr x, H2) => (.inr x, H2)
      | (.inl q, H2) => if tK T n q = 5 then (if H2 0 5 < 1 ∨ H2 0 7 < 0 ∨ H2 0 13 < 0 then (.inr (6, (n : Int)), H2) else (.inl q, H2)) else if tK T n q = 3 then gRead T n m (tE T n q) H2 else (.inr (1, (tS T n q : Int)), H2)) := rfl
    obtain ⟨u1, e1, f1, m1⟩ := m_line M hI nb hp
    have lni := fun q => ln_i (T := T) (q := q) hI nb hp
    unfold MLn at m1
    generalize gLn T n p H = G at *
    obtain ⟨s2, H2⟩ := G
    rcases m1 with ⟨q, g, M1⟩ | ⟨x, H3, g, M1, hn⟩
    case inr =>
      have g : s2 = .inr x := g
      subst g
      dsimp only at e
      rw [e]
      obtain ⟨u2, e2, M2, f2⟩ := ms_eats M1 (k := 3) (c := 59) (by omega)
      have e2 : rn 200 (0, [(0, jvr 238), (1, .inl 59)], [], u1) = some (some (.inl 0), u2) := e2
      have M2 : MS u2 T n h H3 (.inr x) := M2
      obtain ⟨u3, e3, M3, f3⟩ := ms_flaw M2 (f := 1)
      have M3 : MS u3 T n h H3 (.inr x) := M3
      have k9 := M2.k.1
      obtain ⟨u4, e4, f4, M4⟩ := m_end (lv := [(0, jvr 238), (1, .inl 0)]) M3 hn rfl
      have M4 : MS u4 T n h H3 (.inr x) := by
        by_cases z : H3 0 5 = 0 ∨ H3 0 7 = -1 ∨ H3 0 13 = -2
        · rw [if_pos z] at M4
          exact M4
        · rw [if_neg z] at M4
          exact M4
      refine ⟨u4, ?_, ((f1.tr f2.ln).tr f3.ln).tr f4.ln, Or.inr ⟨x, H3, rfl, M4⟩⟩
      have x1 : rn 182 (2, [(0, jvr 238), (1, .inl 1)], [], w) = rn 182 (2, [(0, jvr 238), (1, .inl 0)], [], u2) := by
        rw [p182_2]
        simp (disch := omega) only [p182_0, p182_1, p182_3, p182_6, p182_7, p182_10, p182_11, p182_13, p182_16, p182_17, p182_20, p182_21, p182_24, p182_25, p182_28, p182_29, p182_30, p182_34, p182_37, p182_40, p182_43, p182_44, p182_47, p182_50, p182_51, p182_54, p182_55, p182_58, p182_61, p182_63, p182_66, p182_67, p182_69, p182_72, jwd_c, jwd_0, Nat.reduceLeDiff, Nat.reduceEqDiff, Nat.reduceAdd, Nat.reduceSub, Nat.reduceMul, Int.reduceAdd, Int.reduceSub, Int.reduceMul, Int.reduceNeg, Int.reduceEq, Int.reduceLT, Int.reduceLE, jq_ldi_i, jq_ldl_l, jq_lda_a, jq_inc_i, jq_gs_t, jq_gsb_t, jq_gb_t, jq_gr_2, jq_gr_4, jq_gw_2, jq_s_t, jq_b_t, jg_c, jg_n, js_c, js_n, jrm_c, jrm_n, j2_i, j2_l, j2_a, jq_c_i, jq_c_l, jq_c_0, jq_c_n, jwd_le, jw_c0, mS_I, mS_R, mS_J, mN_I, mN_R, mN_J, mR_I, mI_R, mJ_I, mJ_R, mI_J, mR_J, ↓reduceIte, decide_true, or_true, true_or, and_self, false_or, or_false, reduceCtorEq, Bool.false_eq_true, and_false, false_and, eq_self, true_and, and_true, zero_ne, ↓br_lt_t, ↓br_lt_f, ↓br_eq_t, ↓br_eq_f, ↓br_lz_t, ↓br_lz_f, ↓br_ez_t, ↓br_ez_f, ↓br_gz_t, ↓br_gz_f, jw_id, jin_t, jix_t, ↓ite_t, ↓ite_f, MS.a M, MS.r4 M, MS.b M, MS.f0 M, MS.f1 M, MS.f2 M, MS.f3 M, MS.f4 M, MS.f5 M, MS.f6 M, MS.f7 M, MS.f8 M, MS.f10 M, MS.f12 M, MS.f13 M, MS.a M1, MS.r4 M1, MS.b M1, MS.f0 M1, MS.f1 M1, MS.f2 M1, MS.f3 M1, MS.f4 M1, MS.f5 M1, MS.f6 M1, MS.f7 M1, MS.f8 M1, MS.f10 M1, MS.f12 M1, MS.f13 M1, e1, e2]
      rw [x1, p182_2]
      simp (disch := omega) only [p182_0, p182_1, p182_3, p182_6, p182_7, p182_10, p182_11, p182_13, p182_16, p182_17, p182_20, p182_21, p182_24, p182_25, p182_28, p182_29, p182_30, p182_34, p182_37, p182_40, p182_43, p182_44, p182_47, p182_50, p182_51, p182_54, p182_55, p182_58, p182_61, p182_63, p182_66, p182_67, p182_69, p182_72, jwd_c, jwd_0, Nat.reduceLeDiff, Nat.reduceEqDiff, Nat.reduceAdd, Nat.reduceSub, Nat.reduceMul, Int.reduceAdd, Int.reduceSub, Int.reduceMul, Int.reduceNeg, Int.reduceEq, Int.reduceLT, Int.reduceLE, jq_ldi_i, jq_ldl_l, jq_lda_a, jq_inc_i, jq_gs_t, jq_gsb_t, jq_gb_t, jq_gr_2, jq_gr_4, jq_gw_2, jq_s_t, jq_b_t, jg_c, jg_n, js_c, js_n, jrm_c, jrm_n, j2_i, j2_l, j2_a, jq_c_i, jq_c_l, jq_c_0, jq_c_n, jwd_le, jw_c0, mS_I, mS_R, mS_J, mN_I, mN_R, mN_J, mR_I, mI_R, mJ_I, mJ_R, mI_J, mR_J, ↓reduceIte, decide_true, or_true, true_or, and_self, false_or, or_false, reduceCtorEq, Bool.false_eq_true, and_false, false_and, eq_self, true_and, and_true, zero_ne, ↓br_lt_t, ↓br_lt_f, ↓br_eq_t, ↓br_eq_f, ↓br_lz_t, ↓br_lz_f, ↓br_ez_t, ↓br_ez_f, ↓br_gz_t, ↓br_gz_f, jw_id, jin_t, jix_t, ↓ite_t, ↓ite_f, MS.a M2, MS.r4 M2, MS.b M2, MS.f0 M2, MS.f1 M2, MS.f2 M2, MS.f3 M2, MS.f4 M2, MS.f5 M2, MS.f6 M2, MS.f7 M2, MS.f8 M2, MS.f10 M2, MS.f12 M2, MS.f13 M2, k9, e3, e4]
    have g : s2 = .inl q := g
    subst g
    dsimp only at e M1
    obtain ⟨j2, nb2, q1, q2⟩ := lni q rfl
    have j2 : HJ H2 := j2
    have nb2 : NBd H2 := nb2
    have hn2 : HN H2 := HI.hn (Or.inr j2)
    have hp2 := HI.hp (Or.inr j2)
    have eS : gSn T n (.inl q) 3 = decide (tK T n q = 3) := rfl
    obtain ⟨u2, e2, M2, f2⟩ := ms_eats M1 (k := 3) (c := 59) (by omega)
    by_cases k3 : tK T n q = 3
    · rw [if_pos (eS.trans (decide_eq_true k3))] at e2 M2
      have M2 : MS u2 T n h H2 (.inl (tE T n q)) := M2
      rw [if_neg (by omega), if_pos k3] at e
      have te := te_m (T := T) (n := n) (p := q) ⟨Nat.le_refl _, q2⟩
      obtain ⟨u3, e3, f3, h3⟩ := ih (tE T n q) (i + 1) u2 H2 (by omega) (by omega) te.2 M2 (Or.inr j2) nb2
      rw [← e] at h3
      refine ⟨u3, ?_, (f1.tr f2.ln).tr f3, h3⟩
      rw [← e3, p182_2]
      simp (disch := omega) only [p182_0, p182_1, p182_3, p182_6, p182_7, p182_10, p182_11, p182_13, p182_16, p182_17, p182_20, p182_21, p182_24, p182_25, p182_28, p182_29, p182_30, p182_34, p182_37, p182_40, p182_43, p182_44, p182_47, p182_50, p182_51, p182_54, p182_55, p182_58, p182_61, p182_63, p182_66, p182_67, p182_69, p182_72, jwd_c, jwd_0, Nat.reduceLeDiff, Nat.reduceEqDiff, Nat.reduceAdd, Nat.reduceSub, Nat.reduceMul, Int.reduceAdd, Int.reduceSub, Int.reduceMul, Int.reduceNeg, Int.reduceEq, Int.reduceLT, Int.reduceLE, jq_ldi_i, jq_ldl_l, jq_lda_a, jq_inc_i, jq_gs_t, jq_gsb_t, jq_gb_t, jq_gr_2, jq_gr_4, jq_gw_2, jq_s_t, jq_b_t, jg_c, jg_n, js_c, js_n, jrm_c, jrm_n, j2_i, j2_l, j2_a, jq_c_i, jq_c_l, jq_c_0, jq_c_n, jwd_le, jw_c0, mS_I, mS_R, mS_J, mN_I, mN_R, mN_J, mR_I, mI_R, mJ_I, mJ_R, mI_J, mR_J, ↓reduceIte, decide_true, or_true, true_or, and_self, false_or, or_false, reduceCtorEq, Bool.false_eq_true, and_false, false_and, eq_self, true_and, and_true, zero_ne, ↓br_lt_t, ↓br_lt_f, ↓br_eq_t, ↓br_eq_f, ↓br_lz_t, ↓br_lz_f, ↓br_ez_t, ↓br_ez_f, ↓br_gz_t, ↓br_gz_f, jw_id, jin_t, jix_t, ↓ite_t, ↓ite_f, MS.a M, MS.r4 M, MS.b M, MS.f0 M, MS.f1 M, MS.f2 M, MS.f3 M, MS.f4 M, MS.f5 M, MS.f6 M, MS.f7 M, MS.f8 M, MS.f10 M, MS.f12 M, MS.f13 M, MS.a M1, MS.r4 M1, MS.b M1, MS.f0 M1, MS.f1 M1, MS.f2 M1, MS.f3 M1, MS.f4 M1, MS.f5 M1, MS.f6 M1, MS.f7 M1, MS.f8 M1, MS.f10 M1, MS.f12 M1, MS.f13 M1, e1, e2]
    · have nS : ¬ gSn T n (.inl q) 3 = true := by
        rw [eS, decide_eq_false k3]
        decide
      rw [if_neg nS] at e2 M2
      have x1 : rn 182 (2, [(0, jvr 238), (1, .inl 1)], [], w) = rn 182 (2, [(0, jvr 238), (1, .inl 0)], [], u2) := by
        rw [p182_2]
        simp (disch := omega) only [p182_0, p182_1, p182_3, p182_6, p182_7, p182_10, p182_11, p182_13, p182_16, p182_17, p182_20, p182_21, p182_24, p182_25, p182_28, p182_29, p182_30, p182_34, p182_37, p182_40, p182_43, p182_44, p182_47, p182_50, p182_51, p182_54, p182_55, p182_58, p182_61, p182_63, p182_66, p182_67, p182_69, p182_72, jwd_c, jwd_0, Nat.reduceLeDiff, Nat.reduceEqDiff, Nat.reduceAdd, Nat.reduceSub, Nat.reduceMul, Int.reduceAdd, Int.reduceSub, Int.reduceMul, Int.reduceNeg, Int.reduceEq, Int.reduceLT, Int.reduceLE, jq_ldi_i, jq_ldl_l, jq_lda_a, jq_inc_i, jq_gs_t, jq_gsb_t, jq_gb_t, jq_gr_2, jq_gr_4, jq_gw_2, jq_s_t, jq_b_t, jg_c, jg_n, js_c, js_n, jrm_c, jrm_n, j2_i, j2_l, j2_a, jq_c_i, jq_c_l, jq_c_0, jq_c_n, jwd_le, jw_c0, mS_I, mS_R, mS_J, mN_I, mN_R, mN_J, mR_I, mI_R, mJ_I, mJ_R, mI_J, mR_J, ↓reduceIte, decide_true, or_true, true_or, and_self, false_or, or_false, reduceCtorEq, Bool.false_eq_true, and_false, false_and, eq_self, true_and, and_true, zero_ne, ↓br_lt_t, ↓br_lt_f, ↓br_eq_t, ↓br_eq_f, ↓br_lz_t, ↓br_lz_f, ↓br_ez_t, ↓br_ez_f, ↓br_gz_t, ↓br_gz_f, jw_id, jin_t, jix_t, ↓ite_t, ↓ite_f, MS.a M, MS.r4 M, MS.b M, MS.f0 M, MS.f1 M, MS.f2 M, MS.f3 M, MS.f4 M, MS.f5 M, MS.f6 M, MS.f7 M, MS.f8 M, MS.f10 M, MS.f12 M, MS.f13 M, MS.a M1, MS.r4 M1, MS.b M1, MS.f0 M1, MS.f1 M1, MS.f2 M1, MS.f3 M1, MS.f4 M1, MS.f5 M1, MS.f6 M1, MS.f7 M1, MS.f8 M1, MS.f10 M1, MS.f12 M1, MS.f13 M1, e1, e2]
      rw [x1]
      have K9 := M2.k.2.2.1
      by_cases k5 : tK T n q = 5
      · rw [if_pos k5] at e
        rw [gMk_5.mpr k5] at K9
        obtain ⟨u4, e4, f4, M4⟩ := m_end (lv := [(0, jvr 238), (1, .inl 0)]) M2 hn2 rfl
        have x2 : rn 182 (2, [(0, jvr 238), (1, .inl 0)], [], u2) = some (none, u4) := by
          rw [p182_2]
          simp (disch := omega) only [p182_0, p182_1, p182_3, p182_6, p182_7, p182_10, p182_11, p182_13, p182_16, p182_17, p182_20, p182_21, p182_24, p182_25, p182_28, p182_29, p182_30, p182_34, p182_37, p182_40, p182_43, p182_44, p182_47, p182_50, p182_51, p182_54, p182_55, p182_58, p182_61, p182_63, p182_66, p182_67, p182_69, p182_72, jwd_c, jwd_0, Nat.reduceLeDiff, Nat.reduceEqDiff, Nat.reduceAdd, Nat.reduceSub, Nat.reduceMul, Int.reduceAdd, Int.reduceSub, Int.reduceMul, Int.reduceNeg, Int.reduceEq, Int.reduceLT, Int.reduceLE, jq_ldi_i, jq_ldl_l, jq_lda_a, jq_inc_i, jq_gs_t, jq_gsb_t, jq_gb_t, jq_gr_2, jq_gr_4, jq_gw_2, jq_s_t, jq_b_t, jg_c, jg_n, js_c, js_n, jrm_c, jrm_n, j2_i, j2_l, j2_a, jq_c_i, jq_c_l, jq_c_0, jq_c_n, jwd_le, jw_c0, mS_I, mS_R, mS_J, mN_I, mN_R, mN_J, mR_I, mI_R, mJ_I, mJ_R, mI_J, mR_J, ↓reduceIte, decide_true, or_true, true_or, and_self, false_or, or_false, reduceCtorEq, Bool.false_eq_true, and_false, false_and, eq_self, true_and, and_true, zero_ne, ↓br_lt_t, ↓br_lt_f, ↓br_eq_t, ↓br_eq_f, ↓br_lz_t, ↓br_lz_f, ↓br_ez_t, ↓br_ez_f, ↓br_gz_t, ↓br_gz_f, jw_id, jin_t, jix_t, ↓ite_t, ↓ite_f, MS.a M2, MS.r4 M2, MS.b M2, MS.f0 M2, MS.f1 M2, MS.f2 M2, MS.f3 M2, MS.f4 M2, MS.f5 M2, MS.f6 M2, MS.f7 M2, MS.f8 M2, MS.f10 M2, MS.f12 M2, MS.f13 M2, K9, e4]
        obtain ⟨n1, n2, n3, n4⟩ := hn2
        refine ⟨u4, x2, (f1.tr f2.ln).tr f4.ln, ?_⟩
        rw [e]
        by_cases z : H2 0 5 < 1 ∨ H2 0 7 < 0 ∨ H2 0 13 < 0
        · rw [if_pos (by omega)] at M4
          rw [if_pos z]
          have eP : pF T n 6 (.inl q) = .inr (6, (n : Int)) := by
            show (Sum.inr (6, (tS T n q : Int)) : gSg) = _
            rw [tk5 q2 k5]
          rw [eP] at M4
          exact Or.inr ⟨_, H2, rfl, M4⟩
        · rw [if_neg (by omega)] at M4
          rw [if_neg z]
          exact Or.inl ⟨q, rfl, M4⟩
      · rw [if_neg k5, if_neg k3] at e
        have b9 := gMk_bd (tK T n q)
        have k9' : mI u2 238 9 ≠ 1 := fun z => k5 (gMk_5.mp (by omega))
        obtain ⟨u3, e3, M3, f3⟩ := ms_flaw M2 (f := 1)
        have M3 : MS u3 T n h H2 (.inr (1, (tS T n q : Int))) := M3
        obtain ⟨u4, e4, f4, M4⟩ := m_end (lv := [(0, jvr 238), (1, .inl 0)]) M3 hn2 rfl
        have M4 : MS u4 T n h H2 (.inr (1, (tS T n q : Int))) := by
          by_cases z : H2 0 5 = 0 ∨ H2 0 7 = -1 ∨ H2 0 13 = -2
          · rw [if_pos z] at M4
            exact M4
          · rw [if_neg z] at M4
            exact M4
        rw [e]
        refine ⟨u4, ?_, ((f1.tr f2.ln).tr f3.ln).tr f4.ln, Or.inr ⟨_, H2, rfl, M4⟩⟩
        rw [p182_2]
        simp (disch := omega) only [p182_0, p182_1, p182_3, p182_6, p182_7, p182_10, p182_11, p182_13, p182_16, p182_17, p182_20, p182_21, p182_24, p182_25, p182_28, p182_29, p182_30, p182_34, p182_37, p182_40, p182_43, p182_44, p182_47, p182_50, p182_51, p182_54, p182_55, p182_58, p182_61, p182_63, p182_66, p182_67, p182_69, p182_72, jwd_c, jwd_0, Nat.reduceLeDiff, Nat.reduceEqDiff, Nat.reduceAdd, Nat.reduceSub, Nat.reduceMul, Int.reduceAdd, Int.reduceSub, Int.reduceMul, Int.reduceNeg, Int.reduceEq, Int.reduceLT, Int.reduceLE, jq_ldi_i, jq_ldl_l, jq_lda_a, jq_inc_i, jq_gs_t, jq_gsb_t, jq_gb_t, jq_gr_2, jq_gr_4, jq_gw_2, jq_s_t, jq_b_t, jg_c, jg_n, js_c, js_n, jrm_c, jrm_n, j2_i, j2_l, j2_a, jq_c_i, jq_c_l, jq_c_0, jq_c_n, jwd_le, jw_c0, mS_I, mS_R, mS_J, mN_I, mN_R, mN_J, mR_I, mI_R, mJ_I, mJ_R, mI_J, mR_J, ↓reduceIte, decide_true, or_true, true_or, and_self, false_or, or_false, reduceCtorEq, Bool.false_eq_true, and_false, false_and, eq_self, true_and, and_true, zero_ne, ↓br_lt_t, ↓br_lt_f, ↓br_eq_t, ↓br_eq_f, ↓br_lz_t, ↓br_lz_f, ↓br_ez_t, ↓br_ez_f, ↓br_gz_t, ↓br_gz_f, jw_id, jin_t, jix_t, ↓ite_t, ↓ite_f, MS.a M2, MS.r4 M2, MS.b M2, MS.f0 M2, MS.f1 M2, MS.f2 M2, MS.f3 M2, MS.f4 M2, MS.f5 M2, MS.f6 M2, MS.f7 M2, MS.f8 M2, MS.f10 M2, MS.f12 M2, MS.f13 M2, K9, e3, e4]
theorem m_readAll (M : MS w T n h gH0 (.inl 0)) : ∃ u, rn 182 (0, [(0, jvr 238)], [], w) = some (none, u) ∧ Fln h w u ∧ ((∃ q, (gRead T n (n + 1) 0 gH0).1 = .inl q ∧ MS u T n h (gRead T n (n + 1) 0 gH0).2 (.inl q)) ∨ (∃ x H2, (gRead T n (n + 1) 0 gH0).1 = .inr x ∧ MS u T n h H2 (.inr x))) := by
  obtain ⟨u, e, f, h1⟩ := m_lp (T := T) (n := n) (h := h) (n + 1) 0 0 w gH0 (by omega) (by omega) (by omega) M (Or.inl rfl) (fun k hk => by
    have e3 : gH0 0 3 = 0 := rfl
    omega)
  refine ⟨u, ?_, f, h1⟩
  rw [← e]
  simp (disch := omega) only [p182_0, p182_1, p182_3, p182_6, p182_7, p182_10, p182_11, p182_13, p182_16, p182_17, p182_20, p182_21, p182_24, p182_25, p182_28, p182_29, p182_30, p182_34, p182_37, p182_40, p182_43, p182_44, p182_47, p182_50, p182_51, p182_54, p182_55, p182_58, p182_61, p182_63, p182_66, p182_67, p182_69, p182_72, jwd_c, jwd_0, Nat.reduceLeDiff, Nat.reduceEqDiff, Nat.reduceAdd, Nat.reduceSub, Nat.reduceMul, Int.reduceAdd, Int.reduceSub, Int.reduceMul, Int.reduceNeg, Int.reduceEq, Int.reduceLT, Int.reduceLE, jq_ldi_i, jq_ldl_l, jq_lda_a, jq_inc_i, jq_gs_t, jq_gsb_t, jq_gb_t, jq_gr_2, jq_gr_4, jq_gw_2, jq_s_t, jq_b_t, jg_c, jg_n, js_c, js_n, jrm_c, jrm_n, j2_i, j2_l, j2_a, jq_c_i, jq_c_l, jq_c_0, jq_c_n, jwd_le, jw_c0, mS_I, mS_R, mS_J, mN_I, mN_R, mN_J, mR_I, mI_R, mJ_I, mJ_R, mI_J, mR_J, ↓reduceIte, decide_true, or_true, true_or, and_self, false_or, or_false, reduceCtorEq, Bool.false_eq_true, and_false, false_and, eq_self, true_and, and_true, zero_ne, ↓br_lt_t, ↓br_lt_f, ↓br_eq_t, ↓br_eq_f, ↓br_lz_t, ↓br_lz_f, ↓br_ez_t, ↓br_ez_f, ↓br_gz_t, ↓br_gz_f, jw_id, jin_t, jix_t, ↓ite_t, ↓ite_f]
end MREAD
