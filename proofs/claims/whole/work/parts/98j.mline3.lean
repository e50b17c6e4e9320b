/-! The reader: row, steps, in the model. -/
section MLINE3
variable {w u : jmW} {T : Nat → Int} {n h p : Nat} {H H2 : Nat → Nat → Int} {s : gSg} {l : Int}
theorem HN.cg (k : HN H) (e : ∀ b, H2 0 b = H 0 b) : HN H2 := by
  unfold HN at k ⊢
  rw [e 0, e 1, e 2, e 3, e 4, e 5, e 6, e 7, e 8, e 10, e 12, e 13]
  exact k
theorem gh_n {N s m a b : Nat} (h : a ≠ 17) : gGh T H N s m a b = H a b := if_neg (fun z => h z.1)
theorem mrow_lp {p2 N : Nat} (hW : 3 ≤ H 0 0 ∧ H 0 0 ≤ 8) (hN : (N : Int) = H 0 0 * H 0 2) (hN2 : (N : Int) + H 0 0 ≤ 48) (k1 : tK T n p2 = 1) (hl : ((tE T n p2 - tS T n p2 : Nat) : Int) = H 0 0) : ∀ (d m : Nat) (w : jmW) (tl : jmL), MS w T n h (gGh T H N (tS T n p2) m) (.inl p2) → (m : Int) + d = H 0 0 → gRl T (tS T n p2) m = true → t1p 2 tl → ∃ u lv, Fln h w u ∧ rn 193 (98, (0, jvr 238) :: (1, .inl (m : Int)) :: tl, [], w) = rn 193 (210, (0, jvr 238) :: lv, [], u) ∧ ((gRl T (tS T n p2) (m + d) = true ∧ MS u T n h (gGh T H N (tS T n p2) (m + d)) (.inl p2)) ∨ (gRl T (tS T n p2) (m + d) = false ∧ ∃ m2, MS u T n h (gGh T H N (tS T n p2) m2) (.inr (7, (tS T n p2 : Int))))) := by
  intro d
  induction d with
  | zero =>
    intro m w tl M hd hg ht
    have f0 : mI w h 0 = H 0 0 := M.f0.trans (gh_n (by omega))
    refine ⟨w, (1, .inl (m : Int)) :: tl, Fln.rf, ?_, Or.inl ⟨hg, M⟩⟩
    rw [p193_98]
    simp (disch := omega) only [p193_0, p193_1, p193_2, p193_3, p193_6, p193_9, p193_12, p193_13, p193_16, p193_19, p193_20, p193_23, p193_26, p193_29, p193_30, p193_33, p193_34, p193_35, p193_38, p193_41, p193_43, p193_46, p193_47, p193_50, p193_51, p193_55, p193_58, p193_59, p193_62, p193_63, p193_64, p193_67, p193_68, p193_71, p193_72, p193_75, p193_76, p193_77, p193_80, p193_81, p193_84, p193_87, p193_90, p193_91, p193_93, p193_96, p193_97, p193_99, p193_100, p193_103, p193_106, p193_109, p193_110, p193_113, p193_114, p193_117, p193_118, p193_121, p193_122, p193_123, p193_125, p193_128, p193_129, p193_132, p193_133, p193_136, p193_137, p193_138, p193_140, p193_143, p193_144, p193_147, p193_148, p193_151, p193_152, p193_153, p193_155, p193_158, p193_159, p193_162, p193_163, p193_164, p193_165, p193_166, p193_169, p193_170, p193_172, p193_175, p193_178, p193_179, p193_182, p193_185, p193_186, p193_189, p193_192, p193_193, p193_196, p193_199, p193_200, p193_201, p193_202, p193_203, p193_204, p193_207, p193_211, p193_214, p193_215, p193_218, p193_219, p193_222, p193_223, p193_226i, p193_226a, p193_227, p193_230, p193_231, p193_232, p193_235, jwd_c, jwd_0, Nat.reduceLeDiff, Nat.reduceEqDiff, Nat.reduceAdd, Nat.reduceSub, Nat.reduceMul, Int.reduceAdd, Int.reduceSub, Int.reduceMul, Int.reduceNeg, Int.reduceEq, Int.reduceLT, Int.reduceLE, jq_ldi_i, jq_ldl_l, jq_lda_a, jq_inc_i, jq_gs_t, jq_gsb_t, jq_gb_t, jq_gr_2, jq_gr_4, jq_gw_2, jq_s_t, jq_b_t, jg_c, jg_n, js_c, js_n, jrm_c, jrm_n, j2_i, j2_l, j2_a, jq_c_i, jq_c_l, jq_c_0, jq_c_n, jwd_le, jw_c0, mS_I, mS_R, mS_J, mN_I, mN_R, mN_J, mR_I, mI_R, mJ_I, mJ_R, mI_J, mR_J, ↓reduceIte, decide_true, or_true, true_or, and_self, false_or, or_false, reduceCtorEq, Bool.false_eq_true, and_false, false_and, eq_self, true_and, and_true, zero_ne, ↓br_lt_t, ↓br_lt_f, ↓br_eq_t, ↓br_eq_f, ↓br_lz_t, ↓br_lz_f, ↓br_ez_t, ↓br_ez_f, ↓br_gz_t, ↓br_gz_f, jw_id, jin_t, jix_t, ↓ite_t, ↓ite_f, MS.a M, MS.r4 M, MS.b M, f0]
  | succ d ih =>
    intro m w tl M hd hg ht
    have hge := M.ge
    have f0 : mI w h 0 = H 0 0 := M.f0.trans (gh_n (by omega))
    have f2 : mI w h 2 = H 0 2 := M.f2.trans (gh_n (by omega))
    have j2 := t1p_js ht
    obtain ⟨v9, h9, b1, b2, b3⟩ := M.n9
    rw [bl_l] at b3
    have K := M.k
    obtain ⟨q1, q2, q3, q4, q5, q6, q7, q8⟩ := K
    obtain ⟨y1, y2, y3⟩ := q7 k1
    have sp := y3 m (by omega)
    have tl2 := (tw_lt k1).1 m (by omega)
    have s240 := M.tp.2.2.1
    have r240 := M.tp.2.2.2.2.1
    have r17 := M.2.1.r1
    have s17 := M.2.1.s1
    generalize hS : tS T n p2 = s at *
    generalize hX : T (s + m) = X at *
    have gs : gRl T s (m + 1) = (gRl T s m && decide (gGc (T (s + m)) ≠ -1)) := rfl
    rw [hX, hg, Bool.true_and] at gs
    have eN : (H 0 0 * H 0 2 + (m : Int)).toNat = N + m := by omega
    by_cases z : gGc X = -1
    · have gf : gRl T s (m + (d + 1)) = false := by
        cases y : gRl T s (m + (d + 1)) with
        | false => rfl
        | true =>
          have := rl_le d (m + 1) (by rw [show m + 1 + d = m + (d + 1) by omega]; exact y)
          rw [gs] at this
          exact absurd z (of_decide_eq_true this)
      obtain ⟨v, e1, M1, g1⟩ := ms_flaw M (f := 7)
      have eP : pF T n 7 (.inl p2) = .inr (7, (s : Int)) := by
        show (Sum.inr (7, (tS T n p2 : Int)) : gSg) = _
        rw [hS]
      rw [eP] at M1
      have k9 := M1.k.1
      have f0' : mI v h 0 = H 0 0 := M1.f0.trans (gh_n (by omega))
      refine ⟨v, [(1, .inl ((m : Int) + 1)), (2, .inl (-1))], g1.ln, ?_, Or.inr ⟨gf, m, M1⟩⟩
      have zz : X ≠ 102 ∧ X ≠ 115 ∧ X ≠ 119 := by
        unfold gGc at z
        by_cases a1 : X = 102
        · rw [if_pos a1] at z
          omega
        · rw [if_neg a1] at z
          by_cases a2 : X = 115
          · rw [if_pos a2] at z
            omega
          · rw [if_neg a2] at z
            by_cases a3 : X = 119
            · rw [if_pos a3] at z
              omega
            · exact ⟨a1, a2, a3⟩
      obtain ⟨z1, z2, z3⟩ := zz
      rw [p193_98]
      simp (disch := omega) only [p193_0, p193_1, p193_2, p193_3, p193_6, p193_9, p193_12, p193_13, p193_16, p193_19, p193_20, p193_23, p193_26, p193_29, p193_30, p193_33, p193_34, p193_35, p193_38, p193_41, p193_43, p193_46, p193_47, p193_50, p193_51, p193_55, p193_58, p193_59, p193_62, p193_63, p193_64, p193_67, p193_68, p193_71, p193_72, p193_75, p193_76, p193_77, p193_80, p193_81, p193_84, p193_87, p193_90, p193_91, p193_93, p193_96, p193_97, p193_99, p193_100, p193_103, p193_106, p193_109, p193_110, p193_113, p193_114, p193_117, p193_118, p193_121, p193_122, p193_123, p193_125, p193_128, p193_129, p193_132, p193_133, p193_136, p193_137, p193_138, p193_140, p193_143, p193_144, p193_147, p193_148, p193_151, p193_152, p193_153, p193_155, p193_158, p193_159, p193_162, p193_163, p193_164, p193_165, p193_166, p193_169, p193_170, p193_172, p193_175, p193_178, p193_179, p193_182, p193_185, p193_186, p193_189, p193_192, p193_193, p193_196, p193_199, p193_200, p193_201, p193_202, p193_203, p193_204, p193_207, p193_211, p193_214, p193_215, p193_218, p193_219, p193_222, p193_223, p193_226i, p193_226a, p193_227, p193_230, p193_231, p193_232, p193_235, jwd_c, jwd_0, Nat.reduceLeDiff, Nat.reduceEqDiff, Nat.reduceAdd, Nat.reduceSub, Nat.reduceMul, Int.reduceAdd, Int.reduceSub, Int.reduceMul, Int.reduceNeg, Int.reduceEq, Int.reduceLT, Int.reduceLE, jq_ldi_i, jq_ldl_l, jq_lda_a, jq_inc_i, jq_gs_t, jq_gsb_t, jq_gb_t, jq_gr_2, jq_gr_4, jq_gw_2, jq_s_t, jq_b_t, jg_c, jg_n, js_c, js_n, jrm_c, jrm_n, j2_i, j2_l, j2_a, jq_c_i, jq_c_l, jq_c_0, jq_c_n, jwd_le, jw_c0, mS_I, mS_R, mS_J, mN_I, mN_R, mN_J, mR_I, mI_R, mJ_I, mJ_R, mI_J, mR_J, ↓reduceIte, decide_true, or_true, true_or, and_self, false_or, or_false, reduceCtorEq, Bool.false_eq_true, and_false, false_and, eq_self, true_and, and_true, zero_ne, ↓br_lt_t, ↓br_lt_f, ↓br_eq_t, ↓br_eq_f, ↓br_lz_t, ↓br_lz_f, ↓br_ez_t, ↓br_ez_f, ↓br_gz_t, ↓br_gz_f, jw_id, jin_t, jix_t, ↓ite_t, ↓ite_f, MS.a M, MS.r4 M, MS.b M, f0, h9, s240, r240, Int.toNat_natCast, sp, j2, e1]
      rw [p193_98]
      by_cases y : (m : Int) + 1 < H 0 0
      · simp (disch := omega) only [p193_0, p193_1, p193_2, p193_3, p193_6, p193_9, p193_12, p193_13, p193_16, p193_19, p193_20, p193_23, p193_26, p193_29, p193_30, p193_33, p193_34, p193_35, p193_38, p193_41, p193_43, p193_46, p193_47, p193_50, p193_51, p193_55, p193_58, p193_59, p193_62, p193_63, p193_64, p193_67, p193_68, p193_71, p193_72, p193_75, p193_76, p193_77, p193_80, p193_81, p193_84, p193_87, p193_90, p193_91, p193_93, p193_96, p193_97, p193_99, p193_100, p193_103, p193_106, p193_109, p193_110, p193_113, p193_114, p193_117, p193_118, p193_121, p193_122, p193_123, p193_125, p193_128, p193_129, p193_132, p193_133, p193_136, p193_137, p193_138, p193_140, p193_143, p193_144, p193_147, p193_148, p193_151, p193_152, p193_153, p193_155, p193_158, p193_159, p193_162, p193_163, p193_164, p193_165, p193_166, p193_169, p193_170, p193_172, p193_175, p193_178, p193_179, p193_182, p193_185, p193_186, p193_189, p193_192, p193_193, p193_196, p193_199, p193_200, p193_201, p193_202, p193_203, p193_204, p193_207, p193_211, p193_214, p193_215, p193_218, p193_219, p193_222, p193_223, p193_226i, p193_226a, p193_227, p193_230, p193_231, p193_232, p193_235, jwd_c, jwd_0, Nat.reduceLeDiff, Nat.reduceEqDiff, Nat.reduceAdd, Nat.reduceSub, Nat.reduceMul, Int.reduceAdd, Int.reduceSub, Int.reduceMul, Int.reduceNeg, Int.reduceEq, Int.reduceLT, Int.reduceLE, jq_ldi_i, jq_ldl_l, jq_lda_a, jq_inc_i, jq_gs_t, jq_gsb_t, jq_gb_t, jq_gr_2, jq_gr_4, jq_gw_2, jq_s_t, jq_b_t, jg_c, jg_n, js_c, js_n, jrm_c, jrm_n, j2_i, j2_l, j2_a, jq_c_i, jq_c_l, jq_c_0, jq_c_n, jwd_le, jw_c0, mS_I, mS_R, mS_J, mN_I, mN_R, mN_J, mR_I, mI_R, mJ_I, mJ_R, mI_J, mR_J, ↓reduceIte, decide_true, or_true, true_or, and_self, false_or, or_false, reduceCtorEq, Bool.false_eq_true, and_false, false_and, eq_self, true_and, and_true, zero_ne, ↓br_lt_t, ↓br_lt_f, ↓br_eq_t, ↓br_eq_f, ↓br_lz_t, ↓br_lz_f, ↓br_ez_t, ↓br_ez_f, ↓br_gz_t, ↓br_gz_f, jw_id, jin_t, jix_t, ↓ite_t, ↓ite_f, MS.a M1, MS.r4 M1, MS.b M1, f0', k9]
      · simp (disch := omega) only [p193_0, p193_1, p193_2, p193_3, p193_6, p193_9, p193_12, p193_13, p193_16, p193_19, p193_20, p193_23, p193_26, p193_29, p193_30, p193_33, p193_34, p193_35, p193_38, p193_41, p193_43, p193_46, p193_47, p193_50, p193_51, p193_55, p193_58, p193_59, p193_62, p193_63, p193_64, p193_67, p193_68, p193_71, p193_72, p193_75, p193_76, p193_77, p193_80, p193_81, p193_84, p193_87, p193_90, p193_91, p193_93, p193_96, p193_97, p193_99, p193_100, p193_103, p193_106, p193_109, p193_110, p193_113, p193_114, p193_117, p193_118, p193_121, p193_122, p193_123, p193_125, p193_128, p193_129, p193_132, p193_133, p193_136, p193_137, p193_138, p193_140, p193_143, p193_144, p193_147, p193_148, p193_151, p193_152, p193_153, p193_155, p193_158, p193_159, p193_162, p193_163, p193_164, p193_165, p193_166, p193_169, p193_170, p193_172, p193_175, p193_178, p193_179, p193_182, p193_185, p193_186, p193_189, p193_192, p193_193, p193_196, p193_199, p193_200, p193_201, p193_202, p193_203, p193_204, p193_207, p193_211, p193_214, p193_215, p193_218, p193_219, p193_222, p193_223, p193_226i, p193_226a, p193_227, p193_230, p193_231, p193_232, p193_235, jwd_c, jwd_0, Nat.reduceLeDiff, Nat.reduceEqDiff, Nat.reduceAdd, Nat.reduceSub, Nat.reduceMul, Int.reduceAdd, Int.reduceSub, Int.reduceMul, Int.reduceNeg, Int.reduceEq, Int.reduceLT, Int.reduceLE, jq_ldi_i, jq_ldl_l, jq_lda_a, jq_inc_i, jq_gs_t, jq_gsb_t, jq_gb_t, jq_gr_2, jq_gr_4, jq_gw_2, jq_s_t, jq_b_t, jg_c, jg_n, js_c, js_n, jrm_c, jrm_n, j2_i, j2_l, j2_a, jq_c_i, jq_c_l, jq_c_0, jq_c_n, jwd_le, jw_c0, mS_I, mS_R, mS_J, mN_I, mN_R, mN_J, mR_I, mI_R, mJ_I, mJ_R, mI_J, mR_J, ↓reduceIte, decide_true, or_true, true_or, and_self, false_or, or_false, reduceCtorEq, Bool.false_eq_true, and_false, false_and, eq_self, true_and, and_true, zero_ne, ↓br_lt_t, ↓br_lt_f, ↓br_eq_t, ↓br_eq_f, ↓br_lz_t, ↓br_lz_f, ↓br_ez_t, ↓br_ez_f, ↓br_gz_t, ↓br_gz_f, jw_id, jin_t, jix_t, ↓ite_t, ↓ite_f, MS.a M1, MS.r4 M1, MS.b M1, f0', k9]
    · have M2 := M.arr (i := 1) (k := N + m) (x := gGc X) (by omega) (by omega)
      have eg : uH (gGh T H N s m) 17 (N + m) (gGc X) = gGh T H N s (m + 1) := by rw [gh_s, hX]
      have M2 : MS (setI w (h + 1) (N + m) (gGc X)) T n h (gGh T H N s (m + 1)) (.inl p2) := by rw [← eg]; exact M2
      have i1 := ih (m + 1) (setI w (h + 1) (N + m) (gGc X)) [(2, .inl (gGc X))] M2 (by omega) (by rw [gs]; exact decide_eq_true z) (Or.inr ⟨_, rfl⟩)
      rw [show ((m + 1 : Nat) : Int) = (m : Int) + 1 by omega, show m + 1 + d = m + (d + 1) by omega] at i1
      obtain ⟨u, lv, g1, e1, h1⟩ := i1
      refine ⟨u, lv, (Fln.hal (b := h + 1) (k := N + m) (x := gGc X) (by omega) hge).tr g1, ?_, h1⟩
      rw [← e1, p193_98]
      unfold gGc at z ⊢
      by_cases a1 : X = 102
      · rw [if_pos a1]
        simp (disch := omega) only [p193_0, p193_1, p193_2, p193_3, p193_6, p193_9, p193_12, p193_13, p193_16, p193_19, p193_20, p193_23, p193_26, p193_29, p193_30, p193_33, p193_34, p193_35, p193_38, p193_41, p193_43, p193_46, p193_47, p193_50, p193_51, p193_55, p193_58, p193_59, p193_62, p193_63, p193_64, p193_67, p193_68, p193_71, p193_72, p193_75, p193_76, p193_77, p193_80, p193_81, p193_84, p193_87, p193_90, p193_91, p193_93, p193_96, p193_97, p193_99, p193_100, p193_103, p193_106, p193_109, p193_110, p193_113, p193_114, p193_117, p193_118, p193_121, p193_122, p193_123, p193_125, p193_128, p193_129, p193_132, p193_133, p193_136, p193_137, p193_138, p193_140, p193_143, p193_144, p193_147, p193_148, p193_151, p193_152, p193_153, p193_155, p193_158, p193_159, p193_162, p193_163, p193_164, p193_165, p193_166, p193_169, p193_170, p193_172, p193_175, p193_178, p193_179, p193_182, p193_185, p193_186, p193_189, p193_192, p193_193, p193_196, p193_199, p193_200, p193_201, p193_202, p193_203, p193_204, p193_207, p193_211, p193_214, p193_215, p193_218, p193_219, p193_222, p193_223, p193_226i, p193_226a, p193_227, p193_230, p193_231, p193_232, p193_235, jwd_c, jwd_0, Nat.reduceLeDiff, Nat.reduceEqDiff, Nat.reduceAdd, Nat.reduceSub, Nat.reduceMul, Int.reduceAdd, Int.reduceSub, Int.reduceMul, Int.reduceNeg, Int.reduceEq, Int.reduceLT, Int.reduceLE, jq_ldi_i, jq_ldl_l, jq_lda_a, jq_inc_i, jq_gs_t, jq_gsb_t, jq_gb_t, jq_gr_2, jq_gr_4, jq_gw_2, jq_s_t, jq_b_t, jg_c, jg_n, js_c, js_n, jrm_c, jrm_n, j2_i, j2_l, j2_a, jq_c_i, jq_c_l, jq_c_0, jq_c_n, jwd_le, jw_c0, mS_I, mS_R, mS_J, mN_I, mN_R, mN_J, mR_I, mI_R, mJ_I, mJ_R, mI_J, mR_J, ↓reduceIte, decide_true, or_true, true_or, and_self, false_or, or_false, reduceCtorEq, Bool.false_eq_true, and_false, false_and, eq_self, true_and, and_true, zero_ne, ↓br_lt_t, ↓br_lt_f, ↓br_eq_t, ↓br_eq_f, ↓br_lz_t, ↓br_lz_f, ↓br_ez_t, ↓br_ez_f, ↓br_gz_t, ↓br_gz_f, jw_id, jin_t, jix_t, ↓ite_t, ↓ite_f, MS.a M, MS.r4 M, MS.b M, f0, f2, h9, s240, r240, Int.toNat_natCast, sp, j2, r17, s17, eN]
      · rw [if_neg a1] at z ⊢
        by_cases a2 : X = 115
        · rw [if_pos a2]
          simp (disch := omega) only [p193_0, p193_1, p193_2, p193_3, p193_6, p193_9, p193_12, p193_13, p193_16, p193_19, p193_20, p193_23, p193_26, p193_29, p193_30, p193_33, p193_34, p193_35, p193_38, p193_41, p193_43, p193_46, p193_47, p193_50, p193_51, p193_55, p193_58, p193_59, p193_62, p193_63, p193_64, p193_67, p193_68, p193_71, p193_72, p193_75, p193_76, p193_77, p193_80, p193_81, p193_84, p193_87, p193_90, p193_91, p193_93, p193_96, p193_97, p193_99, p193_100, p193_103, p193_106, p193_109, p193_110, p193_113, p193_114, p193_117, p193_118, p193_121, p193_122, p193_123, p193_125, p193_128, p193_129, p193_132, p193_133, p193_136, p193_137, p193_138, p193_140, p193_143, p193_144, p193_147, p193_148, p193_151, p193_152, p193_153, p193_155, p193_158, p193_159, p193_162, p193_163, p193_164, p193_165, p193_166, p193_169, p193_170, p193_172, p193_175, p193_178, p193_179, p193_182, p193_185, p193_186, p193_189, p193_192, p193_193, p193_196, p193_199, p193_200, p193_201, p193_202, p193_203, p193_204, p193_207, p193_211, p193_214, p193_215, p193_218, p193_219, p193_222, p193_223, p193_226i, p193_226a, p193_227, p193_230, p193_231, p193_232, p193_235, jwd_c, jwd_0, Nat.reduceLeDiff, Nat.reduceEqDiff, Nat.reduceAdd, Nat.reduceSub, Nat.reduceMul, Int.reduceAdd, Int.reduceSub, Int.reduceMul, Int.reduceNeg, Int.reduceEq, Int.reduceLT, Int.reduceLE, jq_ldi_i, jq_ldl_l, jq_lda_a, jq_inc_i, jq_gs_t, jq_gsb_t, jq_gb_t, jq_gr_2, jq_gr_4, jq_gw_2, jq_s_t, jq_b_t, jg_c, jg_n, js_c, js_n, jrm_c, jrm_n, j2_i, j2_l, j2_a, jq_c_i, jq_c_l, jq_c_0, jq_c_n, jwd_le, jw_c0, mS_I, mS_R, mS_J, mN_I, mN_R, mN_J, mR_I, mI_R, mJ_I, mJ_R, mI_J, mR_J, ↓reduceIte, decide_true, or_true, true_or, and_self, false_or, or_false, reduceCtorEq, Bool.false_eq_true, and_false, false_and, eq_self, true_and, and_true, zero_ne, ↓br_lt_t, ↓br_lt_f, ↓br_eq_t, ↓br_eq_f, ↓br_lz_t, ↓br_lz_f, ↓br_ez_t, ↓br_ez_f, ↓br_gz_t, ↓br_gz_f, jw_id, jin_t, jix_t, ↓ite_t, ↓ite_f, MS.a M, MS.r4 M, MS.b M, f0, f2, h9, s240, r240, Int.toNat_natCast, sp, j2, r17, s17, eN]
        · rw [if_neg a2] at z ⊢
          by_cases a3 : X = 119
          · rw [if_pos a3]
            simp (disch := omega) only [p193_0, p193_1, p193_2, p193_3, p193_6, p193_9, p193_12, p193_13, p193_16, p193_19, p193_20, p193_23, p193_26, p193_29, p193_30, p193_33, p193_34, p193_35, p193_38, p193_41, p193_43, p193_46, p193_47, p193_50, p193_51, p193_55, p193_58, p193_59, p193_62, p193_63, p193_64, p193_67, p193_68, p193_71, p193_72, p193_75, p193_76, p193_77, p193_80, p193_81, p193_84, p193_87, p193_90, p193_91, p193_93, p193_96, p193_97, p193_99, p193_100, p193_103, p193_106, p193_109, p193_110, p193_113, p193_114, p193_117, p193_118, p193_121, p193_122, p193_123, p193_125, p193_128, p193_129, p193_132, p193_133, p193_136, p193_137, p193_138, p193_140, p193_143, p193_144, p193_147, p193_148, p193_151, p193_152, p193_153, p193_155, p193_158, p193_159, p193_162, p193_163, p193_164, p193_165, p193_166, p193_169, p193_170, p193_172, p193_175, p193_178, p193_179, p193_182, p193_185, p193_186, p193_189, p193_192, p193_193, p193_196, p193_199, p193_200, p193_201, p193_202, p193_203, p193_204, p193_207, p193_211, p193_214, p193_215, p193_218, p193_219, p193_222, p193_223, p193_226i, p193_226a, p193_227, p193_230, p193_231, p193_232, p193_235, jwd_c, jwd_0, Nat.reduceLeDiff, Nat.reduceEqDiff, Nat.reduceAdd, Nat.reduceSub, Nat.reduceMul, Int.reduceAdd, Int.reduceSub, Int.reduceMul, Int.reduceNeg, Int.reduceEq, Int.reduceLT, Int.reduceLE, jq_ldi_i, jq_ldl_l, jq_lda_a, jq_inc_i, jq_gs_t, jq_gsb_t, jq_gb_t, jq_gr_2, jq_gr_4, jq_gw_2, jq_s_t, jq_b_t, jg_c, jg_n, js_c, js_n, jrm_c, jrm_n, j2_i, j2_l, j2_a, jq_c_i, jq_c_l, jq_c_0, jq_c_n, jwd_le, jw_c0, mS_I, mS_R, mS_J, mN_I, mN_R, mN_J, mR_I, mI_R, mJ_I, mJ_R, mI_J, mR_J, ↓reduceIte, decide_true, or_true, true_or, and_self, false_or, or_false, reduceCtorEq, Bool.false_eq_true, and_false, false_and, eq_self, true_and, and_true, zero_ne, ↓br_lt_t, ↓br_lt_f, ↓br_eq_t, ↓br_eq_f, ↓br_lz_t, ↓br_lz_f, ↓br_ez_t, ↓br_ez_f, ↓br_gz_t, ↓br_gz_f, jw_id, jin_t, jix_t, ↓ite_t, ↓ite_f, MS.a M, MS.r4 M, MS.b M, f0, f2, h9, s240, r240, Int.toNat_natCast, sp, j2, r17, s17, eN]
          · rw [if_neg a3] at z
            exact absurd rfl z
theorem ml_1 (M : MS w T n h H (.inl p)) (hi : HI H) (k1 : tK T n p = 1) : ∃ u, rn 193 (0, [(0, jvr 238)], [], w) = some (none, u) ∧ Fln h w u ∧ ML u T n h H p 1 := by
  have hge := M.ge
  have hn := hi.hn
  obtain ⟨n1, n2, n3, n4⟩ := hn
  obtain ⟨u1, e1, M1, f1⟩ := mb_1 M hi k1
  rw [e1]
  by_cases hf : gFa H 1 = 0
  case neg =>
    have eg : gCom T n H 1 p = .inr (gFa H 1, (tS T n p : Int)) := if_neg hf
    rw [eg] at M1
    obtain ⟨v, e2, M2, f2⟩ := ms_flaw M1 (f := 1)
    have k9 := M1.k.1
    have k9' := M2.k.1
    refine ⟨v, ?_, (f1.tr f2).ln, Or.inr ⟨_, H, if_neg hf, M2, hi.hn⟩⟩
    rw [p193_54]
    simp (disch := omega) only [p193_0, p193_1, p193_2, p193_3, p193_6, p193_9, p193_12, p193_13, p193_16, p193_19, p193_20, p193_23, p193_26, p193_29, p193_30, p193_33, p193_34, p193_35, p193_38, p193_41, p193_43, p193_46, p193_47, p193_50, p193_51, p193_55, p193_58, p193_59, p193_62, p193_63, p193_64, p193_67, p193_68, p193_71, p193_72, p193_75, p193_76, p193_77, p193_80, p193_81, p193_84, p193_87, p193_90, p193_91, p193_93, p193_96, p193_97, p193_99, p193_100, p193_103, p193_106, p193_109, p193_110, p193_113, p193_114, p193_117, p193_118, p193_121, p193_122, p193_123, p193_125, p193_128, p193_129, p193_132, p193_133, p193_136, p193_137, p193_138, p193_140, p193_143, p193_144, p193_147, p193_148, p193_151, p193_152, p193_153, p193_155, p193_158, p193_159, p193_162, p193_163, p193_164, p193_165, p193_166, p193_169, p193_170, p193_172, p193_175, p193_178, p193_179, p193_182, p193_185, p193_186, p193_189, p193_192, p193_193, p193_196, p193_199, p193_200, p193_201, p193_202, p193_203, p193_204, p193_207, p193_211, p193_214, p193_215, p193_218, p193_219, p193_222, p193_223, p193_226i, p193_226a, p193_227, p193_230, p193_231, p193_232, p193_235, jwd_c, jwd_0, Nat.reduceLeDiff, Nat.reduceEqDiff, Nat.reduceAdd, Nat.reduceSub, Nat.reduceMul, Int.reduceAdd, Int.reduceSub, Int.reduceMul, Int.reduceNeg, Int.reduceEq, Int.reduceLT, Int.reduceLE, jq_ldi_i, jq_ldl_l, jq_lda_a, jq_inc_i, jq_gs_t, jq_gsb_t, jq_gb_t, jq_gr_2, jq_gr_4, jq_gw_2, jq_s_t, jq_b_t, jg_c, jg_n, js_c, js_n, jrm_c, jrm_n, j2_i, j2_l, j2_a, jq_c_i, jq_c_l, jq_c_0, jq_c_n, jwd_le, jw_c0, mS_I, mS_R, mS_J, mN_I, mN_R, mN_J, mR_I, mI_R, mJ_I, mJ_R, mI_J, mR_J, ↓reduceIte, decide_true, or_true, true_or, and_self, false_or, or_false, reduceCtorEq, Bool.false_eq_true, and_false, false_and, eq_self, true_and, and_true, zero_ne, ↓br_lt_t, ↓br_lt_f, ↓br_eq_t, ↓br_eq_f, ↓br_lz_t, ↓br_lz_f, ↓br_ez_t, ↓br_ez_f, ↓br_gz_t, ↓br_gz_f, jw_id, jin_t, jix_t, ↓ite_t, ↓ite_f, MS.a M1, MS.r4 M1, MS.b M1, MS.f0 M1, MS.f1 M1, MS.f2 M1, MS.f3 M1, MS.f4 M1, MS.f5 M1, MS.f6 M1, MS.f7 M1, MS.f8 M1, MS.f10 M1, MS.f12 M1, MS.f13 M1, MS.a M2, MS.r4 M2, MS.b M2, MS.f0 M2, MS.f1 M2, MS.f2 M2, MS.f3 M2, MS.f4 M2, MS.f5 M2, MS.f6 M2, MS.f7 M2, MS.f8 M2, MS.f10 M2, MS.f12 M2, MS.f13 M2, k9, k9', e2]
  have eg : gCom T n H 1 p = .inl (tE T n p) := if_pos hf
  rw [eg] at M1
  obtain ⟨hj, hr⟩ := fo_1 hi hf
  have kz := hj.1
  unfold HW at kz
  have hp : 0 ≤ H 0 2 * H 0 0 ∧ H 0 2 * H 0 0 + H 0 0 ≤ 48 := by
    have hW := w6 kz.2.1 kz.2.2.1
    clear M M1
    generalize H 0 2 = r at *
    rcases hW with h | h | h | h | h | h <;> rw [h] <;> omega
  have hnn : HN H := hi.hn
  generalize hp2 : tE T n p = p2 at *
  have eG : gRd T n H 1 p2 = (qRw T n (H 0 0) p2, qRH T n H (H 0 2 * H 0 0).toNat p2) := rfl
  have eq : qRw T n (H 0 0) p2 = if tK T n p2 = 1 then (if ((tE T n p2 - tS T n p2 : Nat) : Int) = H 0 0 then (if gRl T (tS T n p2) (tE T n p2 - tS T n p2) = true then .inl (tE T n p2) else .inr (7, (tS T n p2 : Int))) else .inr (7, (tS T n p2 : Int))) else .inr (1, (tS T n p2 : Int)) := rfl
  have inr : ∀ {v : jmW} {x : Int × Int} {H2 : Nat → Nat → Int}, qRw T n (H 0 0) p2 = .inr x → MS v T n h H2 (.inr x) → HN H2 → ML v T n h H p 1 := fun g M2 hh => by
    refine Or.inr ⟨_, _, ?_, M2, hh⟩
    rw [if_pos hf, hp2, eG]
    exact g
  have K := M1.k
  obtain ⟨q1, q2, q3, q4, q5, q6, q7, q8⟩ := K
  have b9 := gMk_bd (tK T n p2)
  by_cases z1 : tK T n p2 = 1
  case neg =>
    rw [if_neg z1] at eq
    obtain ⟨v, e2, M2, f2⟩ := ms_flaw M1 (f := 1)
    have k9' := M2.k.1
    have q3' : mI u1 238 9 ≠ 2 := fun x => z1 (gMk_1.mp (by omega))
    refine ⟨v, ?_, (f1.tr f2).ln, inr eq M2 hnn⟩
    rw [p193_54]
    simp (disch := omega) only [p193_0, p193_1, p193_2, p193_3, p193_6, p193_9, p193_12, p193_13, p193_16, p193_19, p193_20, p193_23, p193_26, p193_29, p193_30, p193_33, p193_34, p193_35, p193_38, p193_41, p193_43, p193_46, p193_47, p193_50, p193_51, p193_55, p193_58, p193_59, p193_62, p193_63, p193_64, p193_67, p193_68, p193_71, p193_72, p193_75, p193_76, p193_77, p193_80, p193_81, p193_84, p193_87, p193_90, p193_91, p193_93, p193_96, p193_97, p193_99, p193_100, p193_103, p193_106, p193_109, p193_110, p193_113, p193_114, p193_117, p193_118, p193_121, p193_122, p193_123, p193_125, p193_128, p193_129, p193_132, p193_133, p193_136, p193_137, p193_138, p193_140, p193_143, p193_144, p193_147, p193_148, p193_151, p193_152, p193_153, p193_155, p193_158, p193_159, p193_162, p193_163, p193_164, p193_165, p193_166, p193_169, p193_170, p193_172, p193_175, p193_178, p193_179, p193_182, p193_185, p193_186, p193_189, p193_192, p193_193, p193_196, p193_199, p193_200, p193_201, p193_202, p193_203, p193_204, p193_207, p193_211, p193_214, p193_215, p193_218, p193_219, p193_222, p193_223, p193_226i, p193_226a, p193_227, p193_230, p193_231, p193_232, p193_235, jwd_c, jwd_0, Nat.reduceLeDiff, Nat.reduceEqDiff, Nat.reduceAdd, Nat.reduceSub, Nat.reduceMul, Int.reduceAdd, Int.reduceSub, Int.reduceMul, Int.reduceNeg, Int.reduceEq, Int.reduceLT, Int.reduceLE, jq_ldi_i, jq_ldl_l, jq_lda_a, jq_inc_i, jq_gs_t, jq_gsb_t, jq_gb_t, jq_gr_2, jq_gr_4, jq_gw_2, jq_s_t, jq_b_t, jg_c, jg_n, js_c, js_n, jrm_c, jrm_n, j2_i, j2_l, j2_a, jq_c_i, jq_c_l, jq_c_0, jq_c_n, jwd_le, jw_c0, mS_I, mS_R, mS_J, mN_I, mN_R, mN_J, mR_I, mI_R, mJ_I, mJ_R, mI_J, mR_J, ↓reduceIte, decide_true, or_true, true_or, and_self, false_or, or_false, reduceCtorEq, Bool.false_eq_true, and_false, false_and, eq_self, true_and, and_true, zero_ne, ↓br_lt_t, ↓br_lt_f, ↓br_eq_t, ↓br_eq_f, ↓br_lz_t, ↓br_lz_f, ↓br_ez_t, ↓br_ez_f, ↓br_gz_t, ↓br_gz_f, jw_id, jin_t, jix_t, ↓ite_t, ↓ite_f, MS.a M1, MS.r4 M1, MS.b M1, MS.f0 M1, MS.f1 M1, MS.f2 M1, MS.f3 M1, MS.f4 M1, MS.f5 M1, MS.f6 M1, MS.f7 M1, MS.f8 M1, MS.f10 M1, MS.f12 M1, MS.f13 M1, MS.a M2, MS.r4 M2, MS.b M2, MS.f0 M2, MS.f1 M2, MS.f2 M2, MS.f3 M2, MS.f4 M2, MS.f5 M2, MS.f6 M2, MS.f7 M2, MS.f8 M2, MS.f10 M2, MS.f12 M2, MS.f13 M2, k9', e2]
  rw [if_pos z1] at eq
  obtain ⟨y1, y2, y3⟩ := q7 z1
  rw [gMk_1.mpr z1] at q3
  by_cases z2 : ((tE T n p2 - tS T n p2 : Nat) : Int) = H 0 0
  case neg =>
    rw [if_neg z2] at eq
    obtain ⟨v, e2, M2, f2⟩ := ms_flaw M1 (f := 7)
    obtain ⟨v2, e3, M3, f3⟩ := ms_go M2 (fun p e => (pf_n e).elim)
    rw [pg_f] at M3
    have k9' := M2.k.1
    have k9'' := M3.k.1
    have tw := (tw_lt z1).2
    refine ⟨v2, ?_, ((f1.tr f2).tr f3).ln, inr eq M3 hnn⟩
    rw [p193_54]
    simp (disch := omega) only [p193_0, p193_1, p193_2, p193_3, p193_6, p193_9, p193_12, p193_13, p193_16, p193_19, p193_20, p193_23, p193_26, p193_29, p193_30, p193_33, p193_34, p193_35, p193_38, p193_41, p193_43, p193_46, p193_47, p193_50, p193_51, p193_55, p193_58, p193_59, p193_62, p193_63, p193_64, p193_67, p193_68, p193_71, p193_72, p193_75, p193_76, p193_77, p193_80, p193_81, p193_84, p193_87, p193_90, p193_91, p193_93, p193_96, p193_97, p193_99, p193_100, p193_103, p193_106, p193_109, p193_110, p193_113, p193_114, p193_117, p193_118, p193_121, p193_122, p193_123, p193_125, p193_128, p193_129, p193_132, p193_133, p193_136, p193_137, p193_138, p193_140, p193_143, p193_144, p193_147, p193_148, p193_151, p193_152, p193_153, p193_155, p193_158, p193_159, p193_162, p193_163, p193_164, p193_165, p193_166, p193_169, p193_170, p193_172, p193_175, p193_178, p193_179, p193_182, p193_185, p193_186, p193_189, p193_192, p193_193, p193_196, p193_199, p193_200, p193_201, p193_202, p193_203, p193_204, p193_207, p193_211, p193_214, p193_215, p193_218, p193_219, p193_222, p193_223, p193_226i, p193_226a, p193_227, p193_230, p193_231, p193_232, p193_235, jwd_c, jwd_0, Nat.reduceLeDiff, Nat.reduceEqDiff, Nat.reduceAdd, Nat.reduceSub, Nat.reduceMul, Int.reduceAdd, Int.reduceSub, Int.reduceMul, Int.reduceNeg, Int.reduceEq, Int.reduceLT, Int.reduceLE, jq_ldi_i, jq_ldl_l, jq_lda_a, jq_inc_i, jq_gs_t, jq_gsb_t, jq_gb_t, jq_gr_2, jq_gr_4, jq_gw_2, jq_s_t, jq_b_t, jg_c, jg_n, js_c, js_n, jrm_c, jrm_n, j2_i, j2_l, j2_a, jq_c_i, jq_c_l, jq_c_0, jq_c_n, jwd_le, jw_c0, mS_I, mS_R, mS_J, mN_I, mN_R, mN_J, mR_I, mI_R, mJ_I, mJ_R, mI_J, mR_J, ↓reduceIte, decide_true, or_true, true_or, and_self, false_or, or_false, reduceCtorEq, Bool.false_eq_true, and_false, false_and, eq_self, true_and, and_true, zero_ne, ↓br_lt_t, ↓br_lt_f, ↓br_eq_t, ↓br_eq_f, ↓br_lz_t, ↓br_lz_f, ↓br_ez_t, ↓br_ez_f, ↓br_gz_t, ↓br_gz_f, jw_id, jin_t, jix_t, ↓ite_t, ↓ite_f, MS.a M1, MS.r4 M1, MS.b M1, MS.f0 M1, MS.f1 M1, MS.f2 M1, MS.f3 M1, MS.f4 M1, MS.f5 M1, MS.f6 M1, MS.f7 M1, MS.f8 M1, MS.f10 M1, MS.f12 M1, MS.f13 M1, MS.a M2, MS.r4 M2, MS.b M2, MS.f0 M2, MS.f1 M2, MS.f2 M2, MS.f3 M2, MS.f4 M2, MS.f5 M2, MS.f6 M2, MS.f7 M2, MS.f8 M2, MS.f10 M2, MS.f12 M2, MS.f13 M2, MS.a M3, MS.r4 M3, MS.b M3, MS.f0 M3, MS.f1 M3, MS.f2 M3, MS.f3 M3, MS.f4 M3, MS.f5 M3, MS.f6 M3, MS.f7 M3, MS.f8 M3, MS.f10 M3, MS.f12 M3, MS.f13 M3, q3, y1, k9', e2]
    rw [p193_98]
    simp (disch := omega) only [p193_0, p193_1, p193_2, p193_3, p193_6, p193_9, p193_12, p193_13, p193_16, p193_19, p193_20, p193_23, p193_26, p193_29, p193_30, p193_33, p193_34, p193_35, p193_38, p193_41, p193_43, p193_46, p193_47, p193_50, p193_51, p193_55, p193_58, p193_59, p193_62, p193_63, p193_64, p193_67, p193_68, p193_71, p193_72, p193_75, p193_76, p193_77, p193_80, p193_81, p193_84, p193_87, p193_90, p193_91, p193_93, p193_96, p193_97, p193_99, p193_100, p193_103, p193_106, p193_109, p193_110, p193_113, p193_114, p193_117, p193_118, p193_121, p193_122, p193_123, p193_125, p193_128, p193_129, p193_132, p193_133, p193_136, p193_137, p193_138, p193_140, p193_143, p193_144, p193_147, p193_148, p193_151, p193_152, p193_153, p193_155, p193_158, p193_159, p193_162, p193_163, p193_164, p193_165, p193_166, p193_169, p193_170, p193_172, p193_175, p193_178, p193_179, p193_182, p193_185, p193_186, p193_189, p193_192, p193_193, p193_196, p193_199, p193_200, p193_201, p193_202, p193_203, p193_204, p193_207, p193_211, p193_214, p193_215, p193_218, p193_219, p193_222, p193_223, p193_226i, p193_226a, p193_227, p193_230, p193_231, p193_232, p193_235, jwd_c, jwd_0, Nat.reduceLeDiff, Nat.reduceEqDiff, Nat.reduceAdd, Nat.reduceSub, Nat.reduceMul, Int.reduceAdd, Int.reduceSub, Int.reduceMul, Int.reduceNeg, Int.reduceEq, Int.reduceLT, Int.reduceLE, jq_ldi_i, jq_ldl_l, jq_lda_a, jq_inc_i, jq_gs_t, jq_gsb_t, jq_gb_t, jq_gr_2, jq_gr_4, jq_gw_2, jq_s_t, jq_b_t, jg_c, jg_n, js_c, js_n, jrm_c, jrm_n, j2_i, j2_l, j2_a, jq_c_i, jq_c_l, jq_c_0, jq_c_n, jwd_le, jw_c0, mS_I, mS_R, mS_J, mN_I, mN_R, mN_J, mR_I, mI_R, mJ_I, mJ_R, mI_J, mR_J, ↓reduceIte, decide_true, or_true, true_or, and_self, false_or, or_false, reduceCtorEq, Bool.false_eq_true, and_false, false_and, eq_self, true_and, and_true, zero_ne, ↓br_lt_t, ↓br_lt_f, ↓br_eq_t, ↓br_eq_f, ↓br_lz_t, ↓br_lz_f, ↓br_ez_t, ↓br_ez_f, ↓br_gz_t, ↓br_gz_f, jw_id, jin_t, jix_t, ↓ite_t, ↓ite_f, MS.a M1, MS.r4 M1, MS.b M1, MS.f0 M1, MS.f1 M1, MS.f2 M1, MS.f3 M1, MS.f4 M1, MS.f5 M1, MS.f6 M1, MS.f7 M1, MS.f8 M1, MS.f10 M1, MS.f12 M1, MS.f13 M1, MS.a M2, MS.r4 M2, MS.b M2, MS.f0 M2, MS.f1 M2, MS.f2 M2, MS.f3 M2, MS.f4 M2, MS.f5 M2, MS.f6 M2, MS.f7 M2, MS.f8 M2, MS.f10 M2, MS.f12 M2, MS.f13 M2, MS.a M3, MS.r4 M3, MS.b M3, MS.f0 M3, MS.f1 M3, MS.f2 M3, MS.f3 M3, MS.f4 M3, MS.f5 M3, MS.f6 M3, MS.f7 M3, MS.f8 M3, MS.f10 M3, MS.f12 M3, MS.f13 M3, k9']
    rw [p193_210]
    simp (disch := omega) only [p193_0, p193_1, p193_2, p193_3, p193_6, p193_9, p193_12, p193_13, p193_16, p193_19, p193_20, p193_23, p193_26, p193_29, p193_30, p193_33, p193_34, p193_35, p193_38, p193_41, p193_43, p193_46, p193_47, p193_50, p193_51, p193_55, p193_58, p193_59, p193_62, p193_63, p193_64, p193_67, p193_68, p193_71, p193_72, p193_75, p193_76, p193_77, p193_80, p193_81, p193_84, p193_87, p193_90, p193_91, p193_93, p193_96, p193_97, p193_99, p193_100, p193_103, p193_106, p193_109, p193_110, p193_113, p193_114, p193_117, p193_118, p193_121, p193_122, p193_123, p193_125, p193_128, p193_129, p193_132, p193_133, p193_136, p193_137, p193_138, p193_140, p193_143, p193_144, p193_147, p193_148, p193_151, p193_152, p193_153, p193_155, p193_158, p193_159, p193_162, p193_163, p193_164, p193_165, p193_166, p193_169, p193_170, p193_172, p193_175, p193_178, p193_179, p193_182, p193_185, p193_186, p193_189, p193_192, p193_193, p193_196, p193_199, p193_200, p193_201, p193_202, p193_203, p193_204, p193_207, p193_211, p193_214, p193_215, p193_218, p193_219, p193_222, p193_223, p193_226i, p193_226a, p193_227, p193_230, p193_231, p193_232, p193_235, jwd_c, jwd_0, Nat.reduceLeDiff, Nat.reduceEqDiff, Nat.reduceAdd, Nat.reduceSub, Nat.reduceMul, Int.reduceAdd, Int.reduceSub, Int.reduceMul, Int.reduceNeg, Int.reduceEq, Int.reduceLT, Int.reduceLE, jq_ldi_i, jq_ldl_l, jq_lda_a, jq_inc_i, jq_gs_t, jq_gsb_t, jq_gb_t, jq_gr_2, jq_gr_4, jq_gw_2, jq_s_t, jq_b_t, jg_c, jg_n, js_c, js_n, jrm_c, jrm_n, j2_i, j2_l, j2_a, jq_c_i, jq_c_l, jq_c_0, jq_c_n, jwd_le, jw_c0, mS_I, mS_R, mS_J, mN_I, mN_R, mN_J, mR_I, mI_R, mJ_I, mJ_R, mI_J, mR_J, ↓reduceIte, decide_true, or_true, true_or, and_self, false_or, or_false, reduceCtorEq, Bool.false_eq_true, and_false, false_and, eq_self, true_and, and_true, zero_ne, ↓br_lt_t, ↓br_lt_f, ↓br_eq_t, ↓br_eq_f, ↓br_lz_t, ↓br_lz_f, ↓br_ez_t, ↓br_ez_f, ↓br_gz_t, ↓br_gz_f, jw_id, jin_t, jix_t, ↓ite_t, ↓ite_f, MS.a M1, MS.r4 M1, MS.b M1, MS.f0 M1, MS.f1 M1, MS.f2 M1, MS.f3 M1, MS.f4 M1, MS.f5 M1, MS.f6 M1, MS.f7 M1, MS.f8 M1, MS.f10 M1, MS.f12 M1, MS.f13 M1, MS.a M2, MS.r4 M2, MS.b M2, MS.f0 M2, MS.f1 M2, MS.f2 M2, MS.f3 M2, MS.f4 M2, MS.f5 M2, MS.f6 M2, MS.f7 M2, MS.f8 M2, MS.f10 M2, MS.f12 M2, MS.f13 M2, MS.a M3, MS.r4 M3, MS.b M3, MS.f0 M3, MS.f1 M3, MS.f2 M3, MS.f3 M3, MS.f4 M3, MS.f5 M3, MS.f6 M3, MS.f7 M3, MS.f8 M3, MS.f10 M3, MS.f12 M3, MS.f13 M3, e3, k9'']
  rw [if_pos z2] at eq
  have hN : (((H 0 2 * H 0 0).toNat : Nat) : Int) = H 0 0 * H 0 2 := by
    rw [Int.mul_comm (H 0 0)]
    omega
  have g0 : gGh T H (H 0 2 * H 0 0).toNat (tS T n p2) 0 = H := by
    funext a b
    unfold gGh
    rw [if_neg (by omega)]
  obtain ⟨v, lv, f2, e2, h2⟩ := mrow_lp (H := H) (h := h) (p2 := p2) (N := (H 0 2 * H 0 0).toNat) ⟨kz.2.1, kz.2.2.1⟩ hN (by omega) z1 z2 (tE T n p2 - tS T n p2) 0 u1 [] (by rw [g0]; exact M1) (by omega) rfl (Or.inl rfl)
  rw [Nat.zero_add] at h2
  have x1 : rn 193 (54, [(0, jvr 238)], [], u1) = rn 193 (98, (0, jvr 238) :: (1, .inl ((0 : Nat) : Int)) :: [], [], u1) := by
    rw [p193_54]
    simp (disch := omega) only [p193_0, p193_1, p193_2, p193_3, p193_6, p193_9, p193_12, p193_13, p193_16, p193_19, p193_20, p193_23, p193_26, p193_29, p193_30, p193_33, p193_34, p193_35, p193_38, p193_41, p193_43, p193_46, p193_47, p193_50, p193_51, p193_55, p193_58, p193_59, p193_62, p193_63, p193_64, p193_67, p193_68, p193_71, p193_72, p193_75, p193_76, p193_77, p193_80, p193_81, p193_84, p193_87, p193_90, p193_91, p193_93, p193_96, p193_97, p193_99, p193_100, p193_103, p193_106, p193_109, p193_110, p193_113, p193_114, p193_117, p193_118, p193_121, p193_122, p193_123, p193_125, p193_128, p193_129, p193_132, p193_133, p193_136, p193_137, p193_138, p193_140, p193_143, p193_144, p193_147, p193_148, p193_151, p193_152, p193_153, p193_155, p193_158, p193_159, p193_162, p193_163, p193_164, p193_165, p193_166, p193_169, p193_170, p193_172, p193_175, p193_178, p193_179, p193_182, p193_185, p193_186, p193_189, p193_192, p193_193, p193_196, p193_199, p193_200, p193_201, p193_202, p193_203, p193_204, p193_207, p193_211, p193_214, p193_215, p193_218, p193_219, p193_222, p193_223, p193_226i, p193_226a, p193_227, p193_230, p193_231, p193_232, p193_235, jwd_c, jwd_0, Nat.reduceLeDiff, Nat.reduceEqDiff, Nat.reduceAdd, Nat.reduceSub, Nat.reduceMul, Int.reduceAdd, Int.reduceSub, Int.reduceMul, Int.reduceNeg, Int.reduceEq, Int.reduceLT, Int.reduceLE, jq_ldi_i, jq_ldl_l, jq_lda_a, jq_inc_i, jq_gs_t, jq_gsb_t, jq_gb_t, jq_gr_2, jq_gr_4, jq_gw_2, jq_s_t, jq_b_t, jg_c, jg_n, js_c, js_n, jrm_c, jrm_n, j2_i, j2_l, j2_a, jq_c_i, jq_c_l, jq_c_0, jq_c_n, jwd_le, jw_c0, mS_I, mS_R, mS_J, mN_I, mN_R, mN_J, mR_I, mI_R, mJ_I, mJ_R, mI_J, mR_J, ↓reduceIte, decide_true, or_true, true_or, and_self, false_or, or_false, reduceCtorEq, Bool.false_eq_true, and_false, false_and, eq_self, true_and, and_true, zero_ne, ↓br_lt_t, ↓br_lt_f, ↓br_eq_t, ↓br_eq_f, ↓br_lz_t, ↓br_lz_f, ↓br_ez_t, ↓br_ez_f, ↓br_gz_t, ↓br_gz_f, jw_id, jin_t, jix_t, ↓ite_t, ↓ite_f, MS.a M1, MS.r4 M1, MS.b M1, MS.f0 M1, MS.f1 M1, MS.f2 M1, MS.f3 M1, MS.f4 M1, MS.f5 M1, MS.f6 M1, MS.f7 M1, MS.f8 M1, MS.f10 M1, MS.f12 M1, MS.f13 M1, q3, y1, z2]
    rfl
  rw [x1, e2]
  rcases h2 with ⟨g, M2⟩ | ⟨g, m2, M2⟩
  · rw [if_pos g] at eq
    obtain ⟨v2, e3, M3, f3⟩ := ms_go M2 (fun q e => by
      have := Sum.inl.inj e
      subst this
      omega)
    have M3 : MS v2 T n h (gGh T H (H 0 2 * H 0 0).toNat (tS T n p2) (tE T n p2 - tS T n p2)) (.inl (tE T n p2)) := M3
    obtain ⟨v9, h9, b1, b2, b3⟩ := M3.n9
    rw [bl_l] at b3
    have f2' : mI v2 h 2 = H 0 2 := M3.f2.trans (gh_n (by omega))
    have M4 := M3.num (k := 2) (x := H 0 2 + 1)
    refine ⟨_, ?_, ((f1.ln.tr f2).tr f3.ln).tr (Fln.hal (b := h) (k := 2) (x := H 0 2 + 1) (by omega) hge), Or.inl ⟨tE T n p2, hf, ?_, ?_⟩⟩
    · rw [p193_210]
      simp (disch := omega) only [p193_0, p193_1, p193_2, p193_3, p193_6, p193_9, p193_12, p193_13, p193_16, p193_19, p193_20, p193_23, p193_26, p193_29, p193_30, p193_33, p193_34, p193_35, p193_38, p193_41, p193_43, p193_46, p193_47, p193_50, p193_51, p193_55, p193_58, p193_59, p193_62, p193_63, p193_64, p193_67, p193_68, p193_71, p193_72, p193_75, p193_76, p193_77, p193_80, p193_81, p193_84, p193_87, p193_90, p193_91, p193_93, p193_96, p193_97, p193_99, p193_100, p193_103, p193_106, p193_109, p193_110, p193_113, p193_114, p193_117, p193_118, p193_121, p193_122, p193_123, p193_125, p193_128, p193_129, p193_132, p193_133, p193_136, p193_137, p193_138, p193_140, p193_143, p193_144, p193_147, p193_148, p193_151, p193_152, p193_153, p193_155, p193_158, p193_159, p193_162, p193_163, p193_164, p193_165, p193_166, p193_169, p193_170, p193_172, p193_175, p193_178, p193_179, p193_182, p193_185, p193_186, p193_189, p193_192, p193_193, p193_196, p193_199, p193_200, p193_201, p193_202, p193_203, p193_204, p193_207, p193_211, p193_214, p193_215, p193_218, p193_219, p193_222, p193_223, p193_226i, p193_226a, p193_227, p193_230, p193_231, p193_232, p193_235, jwd_c, jwd_0, Nat.reduceLeDiff, Nat.reduceEqDiff, Nat.reduceAdd, Nat.reduceSub, Nat.reduceMul, Int.reduceAdd, Int.reduceSub, Int.reduceMul, Int.reduceNeg, Int.reduceEq, Int.reduceLT, Int.reduceLE, jq_ldi_i, jq_ldl_l, jq_lda_a, jq_inc_i, jq_gs_t, jq_gsb_t, jq_gb_t, jq_gr_2, jq_gr_4, jq_gw_2, jq_s_t, jq_b_t, jg_c, jg_n, js_c, js_n, jrm_c, jrm_n, j2_i, j2_l, j2_a, jq_c_i, jq_c_l, jq_c_0, jq_c_n, jwd_le, jw_c0, mS_I, mS_R, mS_J, mN_I, mN_R, mN_J, mR_I, mI_R, mJ_I, mJ_R, mI_J, mR_J, ↓reduceIte, decide_true, or_true, true_or, and_self, false_or, or_false, reduceCtorEq, Bool.false_eq_true, and_false, false_and, eq_self, true_and, and_true, zero_ne, ↓br_lt_t, ↓br_lt_f, ↓br_eq_t, ↓br_eq_f, ↓br_lz_t, ↓br_lz_f, ↓br_ez_t, ↓br_ez_f, ↓br_gz_t, ↓br_gz_f, jw_id, jin_t, jix_t, ↓ite_t, ↓ite_f, MS.a M2, e3, MS.a M3, MS.r4 M3, MS.b M3, h9, f2']
    · rw [hp2, eG]
      exact eq
    · rw [hp2, eG]
      exact M4
  · rw [if_neg (by rw [g]; decide)] at eq
    obtain ⟨v2, e3, M3, f3⟩ := ms_go M2 (fun p e => by cases e)
    have M3 : MS v2 T n h (gGh T H (H 0 2 * H 0 0).toNat (tS T n p2) m2) (.inr (7, (tS T n p2 : Int))) := M3
    have k9 := M3.k.1
    refine ⟨v2, ?_, (f1.ln.tr f2).tr f3.ln, inr eq M3 (hnn.cg (fun b => gh_n (by omega)))⟩
    rw [p193_210]
    simp (disch := omega) only [p193_0, p193_1, p193_2, p193_3, p193_6, p193_9, p193_12, p193_13, p193_16, p193_19, p193_20, p193_23, p193_26, p193_29, p193_30, p193_33, p193_34, p193_35, p193_38, p193_41, p193_43, p193_46, p193_47, p193_50, p193_51, p193_55, p193_58, p193_59, p193_62, p193_63, p193_64, p193_67, p193_68, p193_71, p193_72, p193_75, p193_76, p193_77, p193_80, p193_81, p193_84, p193_87, p193_90, p193_91, p193_93, p193_96, p193_97, p193_99, p193_100, p193_103, p193_106, p193_109, p193_110, p193_113, p193_114, p193_117, p193_118, p193_121, p193_122, p193_123, p193_125, p193_128, p193_129, p193_132, p193_133, p193_136, p193_137, p193_138, p193_140, p193_143, p193_144, p193_147, p193_148, p193_151, p193_152, p193_153, p193_155, p193_158, p193_159, p193_162, p193_163, p193_164, p193_165, p193_166, p193_169, p193_170, p193_172, p193_175, p193_178, p193_179, p193_182, p193_185, p193_186, p193_189, p193_192, p193_193, p193_196, p193_199, p193_200, p193_201, p193_202, p193_203, p193_204, p193_207, p193_211, p193_214, p193_215, p193_218, p193_219, p193_222, p193_223, p193_226i, p193_226a, p193_227, p193_230, p193_231, p193_232, p193_235, jwd_c, jwd_0, Nat.reduceLeDiff, Nat.reduceEqDiff, Nat.reduceAdd, Nat.reduceSub, Nat.reduceMul, Int.reduceAdd, Int.reduceSub, Int.reduceMul, Int.reduceNeg, Int.reduceEq, Int.reduceLT, Int.reduceLE, jq_ldi_i, jq_ldl_l, jq_lda_a, jq_inc_i, jq_gs_t, jq_gsb_t, jq_gb_t, jq_gr_2, jq_gr_4, jq_gw_2, jq_s_t, jq_b_t, jg_c, jg_n, js_c, js_n, jrm_c, jrm_n, j2_i, j2_l, j2_a, jq_c_i, jq_c_l, jq_c_0, jq_c_n, jwd_le, jw_c0, mS_I, mS_R, mS_J, mN_I, mN_R, mN_J, mR_I, mI_R, mJ_I, mJ_R, mI_J, mR_J, ↓reduceIte, decide_true, or_true, true_or, and_self, false_or, or_false, reduceCtorEq, Bool.false_eq_true, and_false, false_and, eq_self, true_and, and_true, zero_ne, ↓br_lt_t, ↓br_lt_f, ↓br_eq_t, ↓br_eq_f, ↓br_lz_t, ↓br_lz_f, ↓br_ez_t, ↓br_ez_f, ↓br_gz_t, ↓br_gz_f, jw_id, jin_t, jix_t, ↓ite_t, ↓ite_f, MS.a M2, e3, MS.a M3, k9]
theorem mstp_lp : ∀ (m p : Nat) (H : Nat → Nat → Int) (w : jmW) (tl : jmL), MS w T n h H (.inl p) → HJ H → 9 ≤ H 0 5 + m → p ≤ n → t1p 2 tl → ∃ u, Fln h w u ∧ rn 199 (23, (0, jvr 238) :: (1, .inl 1) :: tl, [], w) = some (none, u) ∧ ((∃ q, (gStp T n m p H).1 = .inl q ∧ MS u T n h (gStp T n m p H).2 (.inl q)) ∨ (∃ x H2, (gStp T n m p H).1 = .inr x ∧ MS u T n h H2 (.inr x) ∧ HN H2)) := by
  intro m
  induction m with
  | zero =>
    intro p H w tl M hj hm hp ht
    have b := hj.2.1
    omega
  | succ m ih =>
    intro p H w tl M hj hm hp ht
    have hge := M.ge
    have hn : HN H := HI.hn (Or.inr hj)
    have hb := hj.2.1
    have j2 := t1p_js ht
    have e : gStp T n (m + 1) p H = (match pL T n H p with | .inr x => (.inr x, H) | .inl q => if tK T n q = 4 then gStp T n m (tE T n q) (pLH T n H p) else (.inl q, pLH T n H p)) := rfl
    have eL : pL T n H p = (match pN T n 0 3 (.inl p) with | .inl q => if H 0 5 < 8 then .inl q else .inr (5, (tS T n p : Int)) | .inr x => .inr x) := rfl
    obtain ⟨u1, e1, M1, f1⟩ := ms_bounded M (lo := 0) (hi := 3) (by omega) (by omega) (by omega) (by omega)
    have eN : pN T n 0 3 (.inl p) = pG T n (pB T n 0 3 (.inl p)) := rfl
    cases hB : pB T n 0 3 (.inl p) with
    | inr x =>
      rw [hB] at M1 eN
      have eN : pN T n 0 3 (.inl p) = .inr x := eN
      rw [eN] at eL
      have eL : pL T n H p = .inr x := eL
      rw [eL] at e
      dsimp only at e
      rw [e]
      obtain ⟨u2, e2, M2, f2⟩ := ms_flaw M1 (f := 5)
      have M2 : MS u2 T n h H (.inr x) := M2
      have g3 : ∃ u3, rn 199 (33, (0, jvr 238) :: (1, .inl 1) :: tl, [.inl (pV T n 0 3 (.inl p))], u1) = rn 199 (51, [(0, jvr 238), (1, .inl 1), (2, .inl (pV T n 0 3 (.inl p)))], [], u3) ∧ MS u3 T n h H (.inr x) ∧ Ftk u1 u3 := by
        by_cases z : H 0 5 = 8
        · refine ⟨u2, ?_, M2, f2⟩
          simp (disch := omega) only [p199_0, p199_1, p199_2, p199_5, p199_8, p199_11, p199_12, p199_15, p199_16, p199_17, p199_18, p199_21, p199_22, p199_24, p199_27, p199_28, p199_29, p199_30, p199_33, p199_34, p199_35, p199_38, p199_41, p199_43, p199_46, p199_47, p199_48, p199_52, p199_55, p199_56, p199_59, p199_60, p199_63, p199_64, p199_65, p199_68, p199_71, p199_72, p199_75, p199_78, p199_79, p199_80, p199_81, p199_84i, p199_84a, p199_85, p199_88, p199_89, p199_90, p199_93, p199_94, p199_96, p199_99, p199_100, p199_103, jwd_c, jwd_0, Nat.reduceLeDiff, Nat.reduceEqDiff, Nat.reduceAdd, Nat.reduceSub, Nat.reduceMul, Int.reduceAdd, Int.reduceSub, Int.reduceMul, Int.reduceNeg, Int.reduceEq, Int.reduceLT, Int.reduceLE, jq_ldi_i, jq_ldl_l, jq_lda_a, jq_inc_i, jq_gs_t, jq_gsb_t, jq_gb_t, jq_gr_2, jq_gr_4, jq_gw_2, jq_s_t, jq_b_t, jg_c, jg_n, js_c, js_n, jrm_c, jrm_n, j2_i, j2_l, j2_a, jq_c_i, jq_c_l, jq_c_0, jq_c_n, jwd_le, jw_c0, mS_I, mS_R, mS_J, mN_I, mN_R, mN_J, mR_I, mI_R, mJ_I, mJ_R, mI_J, mR_J, ↓reduceIte, decide_true, or_true, true_or, and_self, false_or, or_false, reduceCtorEq, Bool.false_eq_true, and_false, false_and, eq_self, true_and, and_true, zero_ne, ↓br_lt_t, ↓br_lt_f, ↓br_eq_t, ↓br_eq_f, ↓br_lz_t, ↓br_lz_f, ↓br_ez_t, ↓br_ez_f, ↓br_gz_t, ↓br_gz_f, jw_id, jin_t, jix_t, ↓ite_t, ↓ite_f, MS.a M1, MS.r4 M1, MS.b M1, MS.f0 M1, MS.f1 M1, MS.f2 M1, MS.f3 M1, MS.f4 M1, MS.f5 M1, MS.f6 M1, MS.f7 M1, MS.f8 M1, MS.f10 M1, MS.f12 M1, MS.f13 M1, j2, e2]
        · refine ⟨u1, ?_, M1, Ftk.rf⟩
          simp (disch := omega) only [p199_0, p199_1, p199_2, p199_5, p199_8, p199_11, p199_12, p199_15, p199_16, p199_17, p199_18, p199_21, p199_22, p199_24, p199_27, p199_28, p199_29, p199_30, p199_33, p199_34, p199_35, p199_38, p199_41, p199_43, p199_46, p199_47, p199_48, p199_52, p199_55, p199_56, p199_59, p199_60, p199_63, p199_64, p199_65, p199_68, p199_71, p199_72, p199_75, p199_78, p199_79, p199_80, p199_81, p199_84i, p199_84a, p199_85, p199_88, p199_89, p199_90, p199_93, p199_94, p199_96, p199_99, p199_100, p199_103, jwd_c, jwd_0, Nat.reduceLeDiff, Nat.reduceEqDiff, Nat.reduceAdd, Nat.reduceSub, Nat.reduceMul, Int.reduceAdd, Int.reduceSub, Int.reduceMul, Int.reduceNeg, Int.reduceEq, Int.reduceLT, Int.reduceLE, jq_ldi_i, jq_ldl_l, jq_lda_a, jq_inc_i, jq_gs_t, jq_gsb_t, jq_gb_t, jq_gr_2, jq_gr_4, jq_gw_2, jq_s_t, jq_b_t, jg_c, jg_n, js_c, js_n, jrm_c, jrm_n, j2_i, j2_l, j2_a, jq_c_i, jq_c_l, jq_c_0, jq_c_n, jwd_le, jw_c0, mS_I, mS_R, mS_J, mN_I, mN_R, mN_J, mR_I, mI_R, mJ_I, mJ_R, mI_J, mR_J, ↓reduceIte, decide_true, or_true, true_or, and_self, false_or, or_false, reduceCtorEq, Bool.false_eq_true, and_false, false_and, eq_self, true_and, and_true, zero_ne, ↓br_lt_t, ↓br_lt_f, ↓br_eq_t, ↓br_eq_f, ↓br_lz_t, ↓br_lz_f, ↓br_ez_t, ↓br_ez_f, ↓br_gz_t, ↓br_gz_f, jw_id, jin_t, jix_t, ↓ite_t, ↓ite_f, MS.a M1, MS.r4 M1, MS.b M1, MS.f0 M1, MS.f1 M1, MS.f2 M1, MS.f3 M1, MS.f4 M1, MS.f5 M1, MS.f6 M1, MS.f7 M1, MS.f8 M1, MS.f10 M1, MS.f12 M1, MS.f13 M1, j2]
      obtain ⟨u3, e3, M3, f3⟩ := g3
      obtain ⟨u4, e4, M4, f4⟩ := ms_go M3 (fun p e => by cases e)
      have M4 : MS u4 T n h H (.inr x) := M4
      have k9 := M4.k.1
      refine ⟨u4, ((f1.tr f3).tr f4).ln, ?_, Or.inr ⟨x, H, rfl, M4, hn⟩⟩
      have x0 : rn 199 (23, (0, jvr 238) :: (1, .inl 1) :: tl, [], w) = rn 199 (33, (0, jvr 238) :: (1, .inl 1) :: tl, [.inl (pV T n 0 3 (.inl p))], u1) := by
        rw [p199_23]
        simp (disch := omega) only [p199_0, p199_1, p199_2, p199_5, p199_8, p199_11, p199_12, p199_15, p199_16, p199_17, p199_18, p199_21, p199_22, p199_24, p199_27, p199_28, p199_29, p199_30, p199_34, p199_35, p199_38, p199_41, p199_43, p199_46, p199_47, p199_48, p199_52, p199_55, p199_56, p199_59, p199_60, p199_63, p199_64, p199_65, p199_68, p199_71, p199_72, p199_75, p199_78, p199_79, p199_80, p199_81, p199_84i, p199_84a, p199_85, p199_88, p199_89, p199_90, p199_93, p199_94, p199_96, p199_99, p199_100, p199_103, jwd_c, jwd_0, Nat.reduceLeDiff, Nat.reduceEqDiff, Nat.reduceAdd, Nat.reduceSub, Nat.reduceMul, Int.reduceAdd, Int.reduceSub, Int.reduceMul, Int.reduceNeg, Int.reduceEq, Int.reduceLT, Int.reduceLE, jq_ldi_i, jq_ldl_l, jq_lda_a, jq_inc_i, jq_gs_t, jq_gsb_t, jq_gb_t, jq_gr_2, jq_gr_4, jq_gw_2, jq_s_t, jq_b_t, jg_c, jg_n, js_c, js_n, jrm_c, jrm_n, j2_i, j2_l, j2_a, jq_c_i, jq_c_l, jq_c_0, jq_c_n, jwd_le, jw_c0, mS_I, mS_R, mS_J, mN_I, mN_R, mN_J, mR_I, mI_R, mJ_I, mJ_R, mI_J, mR_J, ↓reduceIte, decide_true, or_true, true_or, and_self, false_or, or_false, reduceCtorEq, Bool.false_eq_true, and_false, false_and, eq_self, true_and, and_true, zero_ne, ↓br_lt_t, ↓br_lt_f, ↓br_eq_t, ↓br_eq_f, ↓br_lz_t, ↓br_lz_f, ↓br_ez_t, ↓br_ez_f, ↓br_gz_t, ↓br_gz_f, jw_id, jin_t, jix_t, ↓ite_t, ↓ite_f, MS.a M, MS.r4 M, MS.b M, MS.f0 M, MS.f1 M, MS.f2 M, MS.f3 M, MS.f4 M, MS.f5 M, MS.f6 M, MS.f7 M, MS.f8 M, MS.f10 M, MS.f12 M, MS.f13 M, e1]
      rw [x0, e3, p199_51]
      simp (disch := omega) only [p199_0, p199_1, p199_2, p199_5, p199_8, p199_11, p199_12, p199_15, p199_16, p199_17, p199_18, p199_21, p199_22, p199_24, p199_27, p199_28, p199_29, p199_30, p199_33, p199_34, p199_35, p199_38, p199_41, p199_43, p199_46, p199_47, p199_48, p199_52, p199_55, p199_56, p199_59, p199_60, p199_63, p199_64, p199_65, p199_68, p199_71, p199_72, p199_75, p199_78, p199_79, p199_80, p199_81, p199_84i, p199_84a, p199_85, p199_88, p199_89, p199_90, p199_93, p199_94, p199_96, p199_99, p199_100, p199_103, jwd_c, jwd_0, Nat.reduceLeDiff, Nat.reduceEqDiff, Nat.reduceAdd, Nat.reduceSub, Nat.reduceMul, Int.reduceAdd, Int.reduceSub, Int.reduceMul, Int.reduceNeg, Int.reduceEq, Int.reduceLT, Int.reduceLE, jq_ldi_i, jq_ldl_l, jq_lda_a, jq_inc_i, jq_gs_t, jq_gsb_t, jq_gb_t, jq_gr_2, jq_gr_4, jq_gw_2, jq_s_t, jq_b_t, jg_c, jg_n, js_c, js_n, jrm_c, jrm_n, j2_i, j2_l, j2_a, jq_c_i, jq_c_l, jq_c_0, jq_c_n, jwd_le, jw_c0, mS_I, mS_R, mS_J, mN_I, mN_R, mN_J, mR_I, mI_R, mJ_I, mJ_R, mI_J, mR_J, ↓reduceIte, decide_true, or_true, true_or, and_self, false_or, or_false, reduceCtorEq, Bool.false_eq_true, and_false, false_and, eq_self, true_and, and_true, zero_ne, ↓br_lt_t, ↓br_lt_f, ↓br_eq_t, ↓br_eq_f, ↓br_lz_t, ↓br_lz_f, ↓br_ez_t, ↓br_ez_f, ↓br_gz_t, ↓br_gz_f, jw_id, jin_t, jix_t, ↓ite_t, ↓ite_f, MS.a M3, MS.r4 M3, MS.b M3, MS.f0 M3, MS.f1 M3, MS.f2 M3, MS.f3 M3, MS.f4 M3, MS.f5 M3, MS.f6 M3, MS.f7 M3, MS.f8 M3, MS.f10 M3, MS.f12 M3, MS.f13 M3, MS.a M4, MS.r4 M4, MS.b M4, MS.f0 M4, MS.f1 M4, MS.f2 M4, MS.f3 M4, MS.f4 M4, MS.f5 M4, MS.f6 M4, MS.f7 M4, MS.f8 M4, MS.f10 M4, MS.f12 M4, MS.f13 M4, e4, k9]
    | inl a =>
      have hB2 := pB_i hB
      have ea : p = a := Sum.inl.inj hB2.1
      subst ea
      have k2 := pB_k hB
      rw [hB] at M1 eN
      have eN : pN T n 0 3 (.inl p) = .inl (tE T n p) := eN
      rw [eN] at eL
      have te := te_m (T := T) (n := n) (p := p) ⟨Nat.le_refl _, hp⟩
      generalize hv : pV T n 0 3 (.inl p) = v at *
      by_cases z : H 0 5 = 8
      · have eL : pL T n H p = .inr (5, (tS T n p : Int)) := eL.trans (if_neg (by omega))
        rw [eL] at e
        dsimp only at e
        rw [e]
        obtain ⟨u2, e2, M2, f2⟩ := ms_flaw M1 (f := 5)
        obtain ⟨u4, e4, M4, f4⟩ := ms_go M2 (fun p e => (pf_n e).elim)
        rw [pg_f] at M4
        have k9 := M4.k.1
        refine ⟨u4, ((f1.tr f2).tr f4).ln, ?_, Or.inr ⟨_, H, rfl, M4, hn⟩⟩
        rw [p199_23]
        simp (disch := omega) only [p199_0, p199_1, p199_2, p199_5, p199_8, p199_11, p199_12, p199_15, p199_16, p199_17, p199_18, p199_21, p199_22, p199_24, p199_27, p199_28, p199_29, p199_30, p199_33, p199_34, p199_35, p199_38, p199_41, p199_43, p199_46, p199_47, p199_48, p199_51, p199_52, p199_55, p199_56, p199_59, p199_60, p199_63, p199_64, p199_65, p199_68, p199_71, p199_72, p199_75, p199_78, p199_79, p199_80, p199_81, p199_84i, p199_84a, p199_85, p199_88, p199_89, p199_90, p199_93, p199_94, p199_96, p199_99, p199_100, p199_103, jwd_c, jwd_0, Nat.reduceLeDiff, Nat.reduceEqDiff, Nat.reduceAdd, Nat.reduceSub, Nat.reduceMul, Int.reduceAdd, Int.reduceSub, Int.reduceMul, Int.reduceNeg, Int.reduceEq, Int.reduceLT, Int.reduceLE, jq_ldi_i, jq_ldl_l, jq_lda_a, jq_inc_i, jq_gs_t, jq_gsb_t, jq_gb_t, jq_gr_2, jq_gr_4, jq_gw_2, jq_s_t, jq_b_t, jg_c, jg_n, js_c, js_n, jrm_c, jrm_n, j2_i, j2_l, j2_a, jq_c_i, jq_c_l, jq_c_0, jq_c_n, jwd_le, jw_c0, mS_I, mS_R, mS_J, mN_I, mN_R, mN_J, mR_I, mI_R, mJ_I, mJ_R, mI_J, mR_J, ↓reduceIte, decide_true, or_true, true_or, and_self, false_or, or_false, reduceCtorEq, Bool.false_eq_true, and_false, false_and, eq_self, true_and, and_true, zero_ne, ↓br_lt_t, ↓br_lt_f, ↓br_eq_t, ↓br_eq_f, ↓br_lz_t, ↓br_lz_f, ↓br_ez_t, ↓br_ez_f, ↓br_gz_t, ↓br_gz_f, jw_id, jin_t, jix_t, ↓ite_t, ↓ite_f, MS.a M, MS.r4 M, MS.b M, MS.f0 M, MS.f1 M, MS.f2 M, MS.f3 M, MS.f4 M, MS.f5 M, MS.f6 M, MS.f7 M, MS.f8 M, MS.f10 M, MS.f12 M, MS.f13 M, MS.a M1, MS.r4 M1, MS.b M1, MS.f0 M1, MS.f1 M1, MS.f2 M1, MS.f3 M1, MS.f4 M1, MS.f5 M1, MS.f6 M1, MS.f7 M1, MS.f8 M1, MS.f10 M1, MS.f12 M1, MS.f13 M1, MS.a M2, MS.r4 M2, MS.b M2, MS.f0 M2, MS.f1 M2, MS.f2 M2, MS.f3 M2, MS.f4 M2, MS.f5 M2, MS.f6 M2, MS.f7 M2, MS.f8 M2, MS.f10 M2, MS.f12 M2, MS.f13 M2, MS.a M4, MS.r4 M4, MS.b M4, MS.f0 M4, MS.f1 M4, MS.f2 M4, MS.f3 M4, MS.f4 M4, MS.f5 M4, MS.f6 M4, MS.f7 M4, MS.f8 M4, MS.f10 M4, MS.f12 M4, MS.f13 M4, j2, e1, e2, e4, k9]
      · have eL : pL T n H p = .inl (tE T n p) := eL.trans (if_pos (by omega))
        have hj2 := hj_step hj eL
        rw [eL] at e
        dsimp only at e
        obtain ⟨u4, e4, M4, f4⟩ := ms_go M1 (fun q e => by
          have := Sum.inl.inj e
          subst this
          omega)
        have M4 : MS u4 T n h H (.inl (tE T n p)) := M4
        obtain ⟨v9, h9, b1, b2, b3⟩ := M4.n9
        rw [bl_l] at b3
        have M5 := M4.arr (i := 11) (k := (H 0 5).toNat) (x := v) (by omega) (by omega)
        have M6 := M5.num (k := 5) (x := H 0 5 + 1)
        have eP : uH (uH H (16 + 11) (H 0 5).toNat v) 0 5 (H 0 5 + 1) = pLH T n H p := by
          unfold pLH
          rw [hv]
        rw [eP] at M6
        obtain ⟨u7, e7, M7, f7⟩ := ms_eats M6 (k := 4) (c := 44) (by omega)
        have r27 := M4.2.1.r11
        have s27 := M4.2.1.s11
        have g5 : mI (setI u4 (h + 11) (H 0 5).toNat v) h 5 = H 0 5 := by rw [mI_nb (by omega)]; exact M4.f5
        have F6 : Fln h w u7 := ((f1.tr f4).ln.tr ((Fln.hal (b := h + 11) (k := (H 0 5).toNat) (x := v) (by omega) hge).tr (Fln.hal (b := h) (k := 5) (x := H 0 5 + 1) (by omega) hge))).tr f7.ln
        have x0 : ∀ b : Int, gSn T n (.inl (tE T n p)) 4 = decide (b = 1) → (b = 0 ∨ b = 1) → rn 199 (23, (0, jvr 238) :: (1, .inl 1) :: tl, [], w) = rn 199 (23, [(0, jvr 238), (1, .inl b), (2, .inl v)], [], u7) := by
          intro b hb hb2
          have eb : (if gSn T n (.inl (tE T n p)) 4 = true then (1 : Int) else 0) = b := by
            rw [hb]
            rcases hb2 with rfl | rfl <;> rfl
          rw [eb] at e7
          rw [p199_23]
          simp (disch := omega) only [p199_0, p199_1, p199_2, p199_5, p199_8, p199_11, p199_12, p199_15, p199_16, p199_17, p199_18, p199_21, p199_22, p199_24, p199_27, p199_28, p199_29, p199_30, p199_33, p199_34, p199_35, p199_38, p199_41, p199_43, p199_46, p199_47, p199_48, p199_51, p199_52, p199_55, p199_56, p199_59, p199_60, p199_63, p199_64, p199_65, p199_68, p199_71, p199_72, p199_75, p199_78, p199_79, p199_80, p199_81, p199_84i, p199_84a, p199_85, p199_88, p199_89, p199_90, p199_93, p199_94, p199_96, p199_99, p199_100, p199_103, jwd_c, jwd_0, Nat.reduceLeDiff, Nat.reduceEqDiff, Nat.reduceAdd, Nat.reduceSub, Nat.reduceMul, Int.reduceAdd, Int.reduceSub, Int.reduceMul, Int.reduceNeg, Int.reduceEq, Int.reduceLT, Int.reduceLE, jq_ldi_i, jq_ldl_l, jq_lda_a, jq_inc_i, jq_gs_t, jq_gsb_t, jq_gb_t, jq_gr_2, jq_gr_4, jq_gw_2, jq_s_t, jq_b_t, jg_c, jg_n, js_c, js_n, jrm_c, jrm_n, j2_i, j2_l, j2_a, jq_c_i, jq_c_l, jq_c_0, jq_c_n, jwd_le, jw_c0, mS_I, mS_R, mS_J, mN_I, mN_R, mN_J, mR_I, mI_R, mJ_I, mJ_R, mI_J, mR_J, ↓reduceIte, decide_true, or_true, true_or, and_self, false_or, or_false, reduceCtorEq, Bool.false_eq_true, and_false, false_and, eq_self, true_and, and_true, zero_ne, ↓br_lt_t, ↓br_lt_f, ↓br_eq_t, ↓br_eq_f, ↓br_lz_t, ↓br_lz_f, ↓br_ez_t, ↓br_ez_f, ↓br_gz_t, ↓br_gz_f, jw_id, jin_t, jix_t, ↓ite_t, ↓ite_f, MS.a M, MS.r4 M, MS.b M, MS.f0 M, MS.f1 M, MS.f2 M, MS.f3 M, MS.f4 M, MS.f5 M, MS.f6 M, MS.f7 M, MS.f8 M, MS.f10 M, MS.f12 M, MS.f13 M, MS.a M1, MS.r4 M1, MS.b M1, MS.f0 M1, MS.f1 M1, MS.f2 M1, MS.f3 M1, MS.f4 M1, MS.f5 M1, MS.f6 M1, MS.f7 M1, MS.f8 M1, MS.f10 M1, MS.f12 M1, MS.f13 M1, MS.a M4, MS.r4 M4, MS.b M4, MS.f0 M4, MS.f1 M4, MS.f2 M4, MS.f3 M4, MS.f4 M4, MS.f5 M4, MS.f6 M4, MS.f7 M4, MS.f8 M4, MS.f10 M4, MS.f12 M4, MS.f13 M4, MS.a M5, MS.r4 M5, MS.b M5, MS.a M6, j2, e1, e4, h9, r27, s27, g5, e7]
        have eS : gSn T n (.inl (tE T n p)) 4 = decide (tK T n (tE T n p) = 4) := rfl
        by_cases k4 : tK T n (tE T n p) = 4
        · rw [if_pos k4] at e
          have x1 := x0 1 (eS.trans (decide_eq_true k4)) (Or.inr rfl)
          rw [if_pos (eS.trans (decide_eq_true k4))] at M7
          have M7 : MS u7 T n h (pLH T n H p) (.inl (tE T n (tE T n p))) := M7
          have h5' : pLH T n H p 0 5 = H 0 5 + 1 := uH_s
          have te2 := te_m (T := T) (n := n) (p := p) te
          obtain ⟨u8, f8, e8, h8⟩ := ih (tE T n (tE T n p)) (pLH T n H p) u7 [(2, .inl v)] M7 hj2 (by omega) te2.2 (Or.inr ⟨_, rfl⟩)
          rw [e, x1]
          exact ⟨u8, F6.tr f8, e8, h8⟩
        · rw [if_neg k4] at e
          have x1 := x0 0 (eS.trans (decide_eq_false k4)) (Or.inl rfl)
          rw [if_neg (by rw [eS, decide_eq_false k4]; decide)] at M7
          rw [e]
          refine ⟨u7, F6, ?_, Or.inl ⟨_, rfl, M7⟩⟩
          rw [x1, p199_23]
          simp (disch := omega) only [p199_0, p199_1, p199_2, p199_5, p199_8, p199_11, p199_12, p199_15, p199_16, p199_17, p199_18, p199_21, p199_22, p199_24, p199_27, p199_28, p199_29, p199_30, p199_33, p199_34, p199_35, p199_38, p199_41, p199_43, p199_46, p199_47, p199_48, p199_51, p199_52, p199_55, p199_56, p199_59, p199_60, p199_63, p199_64, p199_65, p199_68, p199_71, p199_72, p199_75, p199_78, p199_79, p199_80, p199_81, p199_84i, p199_84a, p199_85, p199_88, p199_89, p199_90, p199_93, p199_94, p199_96, p199_99, p199_100, p199_103, jwd_c, jwd_0, Nat.reduceLeDiff, Nat.reduceEqDiff, Nat.reduceAdd, Nat.reduceSub, Nat.reduceMul, Int.reduceAdd, Int.reduceSub, Int.reduceMul, Int.reduceNeg, Int.reduceEq, Int.reduceLT, Int.reduceLE, jq_ldi_i, jq_ldl_l, jq_lda_a, jq_inc_i, jq_gs_t, jq_gsb_t, jq_gb_t, jq_gr_2, jq_gr_4, jq_gw_2, jq_s_t, jq_b_t, jg_c, jg_n, js_c, js_n, jrm_c, jrm_n, j2_i, j2_l, j2_a, jq_c_i, jq_c_l, jq_c_0, jq_c_n, jwd_le, jw_c0, mS_I, mS_R, mS_J, mN_I, mN_R, mN_J, mR_I, mI_R, mJ_I, mJ_R, mI_J, mR_J, ↓reduceIte, decide_true, or_true, true_or, and_self, false_or, or_false, reduceCtorEq, Bool.false_eq_true, and_false, false_and, eq_self, true_and, and_true, zero_ne, ↓br_lt_t, ↓br_lt_f, ↓br_eq_t, ↓br_eq_f, ↓br_lz_t, ↓br_lz_f, ↓br_ez_t, ↓br_ez_f, ↓br_gz_t, ↓br_gz_f, jw_id, jin_t, jix_t, ↓ite_t, ↓ite_f]
theorem ml_4 (M : MS w T n h H (.inl p)) (hi : HI H) (k1 : tK T n p = 1) (hp : p ≤ n) : ∃ u, rn 199 (0, [(0, jvr 238)], [], w) = some (none, u) ∧ Fln h w u ∧ ML u T n h H p 4 := by
  have hn := hi.hn
  obtain ⟨n1, n2, n3, n4⟩ := hn
  obtain ⟨u1, e1, M1, f1⟩ := mb_4 M hi k1
  rw [e1]
  by_cases hf : gFa H 4 = 0
  case neg =>
    have eg : gCom T n H 4 p = .inr (gFa H 4, (tS T n p : Int)) := if_neg hf
    rw [eg] at M1
    obtain ⟨v, e2, M2, f2⟩ := ms_bounded M1 (lo := 0) (hi := 3) (by omega) (by omega) (by omega) (by omega)
    have M2 : MS v T n h H (.inr (gFa H 4, (tS T n p : Int))) := M2
    obtain ⟨v2, e3, M3, f3⟩ := ms_flaw M2 (f := 5)
    have M3 : MS v2 T n h H (.inr (gFa H 4, (tS T n p : Int))) := M3
    have g3 : ∃ u3, rn 199 (21, [(0, jvr 238)], [], u1) = rn 199 (51, [(0, jvr 238), (1, .inl 1), (2, .inl 0)], [], u3) ∧ MS u3 T n h H (.inr (gFa H 4, (tS T n p : Int))) ∧ Ftk v u3 := by
      have e2 : rn 191 (0, [(0, jvr 238), (1, .inl 0), (2, .inl 3)], [], u1) = some (some (.inl 0), v) := e2
      by_cases z : H 0 5 = 8
      · refine ⟨v2, ?_, M3, f3⟩
        rw [p199_21]
        simp (disch := omega) only [p199_0, p199_1, p199_2, p199_5, p199_8, p199_11, p199_12, p199_15, p199_16, p199_17, p199_18, p199_22, p199_23, p199_24, p199_27, p199_28, p199_29, p199_30, p199_33, p199_34, p199_35, p199_38, p199_41, p199_43, p199_46, p199_47, p199_48, p199_52, p199_55, p199_56, p199_59, p199_60, p199_63, p199_64, p199_65, p199_68, p199_71, p199_72, p199_75, p199_78, p199_79, p199_80, p199_81, p199_84i, p199_84a, p199_85, p199_88, p199_89, p199_90, p199_93, p199_94, p199_96, p199_99, p199_100, p199_103, jwd_c, jwd_0, Nat.reduceLeDiff, Nat.reduceEqDiff, Nat.reduceAdd, Nat.reduceSub, Nat.reduceMul, Int.reduceAdd, Int.reduceSub, Int.reduceMul, Int.reduceNeg, Int.reduceEq, Int.reduceLT, Int.reduceLE, jq_ldi_i, jq_ldl_l, jq_lda_a, jq_inc_i, jq_gs_t, jq_gsb_t, jq_gb_t, jq_gr_2, jq_gr_4, jq_gw_2, jq_s_t, jq_b_t, jg_c, jg_n, js_c, js_n, jrm_c, jrm_n, j2_i, j2_l, j2_a, jq_c_i, jq_c_l, jq_c_0, jq_c_n, jwd_le, jw_c0, mS_I, mS_R, mS_J, mN_I, mN_R, mN_J, mR_I, mI_R, mJ_I, mJ_R, mI_J, mR_J, ↓reduceIte, decide_true, or_true, true_or, and_self, false_or, or_false, reduceCtorEq, Bool.false_eq_true, and_false, false_and, eq_self, true_and, and_true, zero_ne, ↓br_lt_t, ↓br_lt_f, ↓br_eq_t, ↓br_eq_f, ↓br_lz_t, ↓br_lz_f, ↓br_ez_t, ↓br_ez_f, ↓br_gz_t, ↓br_gz_f, jw_id, jin_t, jix_t, ↓ite_t, ↓ite_f, MS.a M1, MS.r4 M1, MS.b M1, MS.f0 M1, MS.f1 M1, MS.f2 M1, MS.f3 M1, MS.f4 M1, MS.f5 M1, MS.f6 M1, MS.f7 M1, MS.f8 M1, MS.f10 M1, MS.f12 M1, MS.f13 M1, MS.a M2, MS.r4 M2, MS.b M2, MS.f0 M2, MS.f1 M2, MS.f2 M2, MS.f3 M2, MS.f4 M2, MS.f5 M2, MS.f6 M2, MS.f7 M2, MS.f8 M2, MS.f10 M2, MS.f12 M2, MS.f13 M2, e2, e3]
      · refine ⟨v, ?_, M2, Ftk.rf⟩
        rw [p199_21]
        simp (disch := omega) only [p199_0, p199_1, p199_2, p199_5, p199_8, p199_11, p199_12, p199_15, p199_16, p199_17, p199_18, p199_22, p199_23, p199_24, p199_27, p199_28, p199_29, p199_30, p199_33, p199_34, p199_35, p199_38, p199_41, p199_43, p199_46, p199_47, p199_48, p199_52, p199_55, p199_56, p199_59, p199_60, p199_63, p199_64, p199_65, p199_68, p199_71, p199_72, p199_75, p199_78, p199_79, p199_80, p199_81, p199_84i, p199_84a, p199_85, p199_88, p199_89, p199_90, p199_93, p199_94, p199_96, p199_99, p199_100, p199_103, jwd_c, jwd_0, Nat.reduceLeDiff, Nat.reduceEqDiff, Nat.reduceAdd, Nat.reduceSub, Nat.reduceMul, Int.reduceAdd, Int.reduceSub, Int.reduceMul, Int.reduceNeg, Int.reduceEq, Int.reduceLT, Int.reduceLE, jq_ldi_i, jq_ldl_l, jq_lda_a, jq_inc_i, jq_gs_t, jq_gsb_t, jq_gb_t, jq_gr_2, jq_gr_4, jq_gw_2, jq_s_t, jq_b_t, jg_c, jg_n, js_c, js_n, jrm_c, jrm_n, j2_i, j2_l, j2_a, jq_c_i, jq_c_l, jq_c_0, jq_c_n, jwd_le, jw_c0, mS_I, mS_R, mS_J, mN_I, mN_R, mN_J, mR_I, mI_R, mJ_I, mJ_R, mI_J, mR_J, ↓reduceIte, decide_true, or_true, true_or, and_self, false_or, or_false, reduceCtorEq, Bool.false_eq_true, and_false, false_and, eq_self, true_and, and_true, zero_ne, ↓br_lt_t, ↓br_lt_f, ↓br_eq_t, ↓br_eq_f, ↓br_lz_t, ↓br_lz_f, ↓br_ez_t, ↓br_ez_f, ↓br_gz_t, ↓br_gz_f, jw_id, jin_t, jix_t, ↓ite_t, ↓ite_f, MS.a M1, MS.r4 M1, MS.b M1, MS.f0 M1, MS.f1 M1, MS.f2 M1, MS.f3 M1, MS.f4 M1, MS.f5 M1, MS.f6 M1, MS.f7 M1, MS.f8 M1, MS.f10 M1, MS.f12 M1, MS.f13 M1, MS.a M2, MS.r4 M2, MS.b M2, MS.f0 M2, MS.f1 M2, MS.f2 M2, MS.f3 M2, MS.f4 M2, MS.f5 M2, MS.f6 M2, MS.f7 M2, MS.f8 M2, MS.f10 M2, MS.f12 M2, MS.f13 M2, e2]
    obtain ⟨u3, e4, M4, f4⟩ := g3
    obtain ⟨u5, e5, M5, f5⟩ := ms_go M4 (fun p e => by cases e)
    have M5 : MS u5 T n h H (.inr (gFa H 4, (tS T n p : Int))) := M5
    have k9 := M5.k.1
    refine ⟨u5, ?_, (((f1.tr f2).tr f4).tr f5).ln, Or.inr ⟨_, H, if_neg hf, M5, hi.hn⟩⟩
    rw [e4, p199_51]
    simp (disch := omega) only [p199_0, p199_1, p199_2, p199_5, p199_8, p199_11, p199_12, p199_15, p199_16, p199_17, p199_18, p199_22, p199_23, p199_24, p199_27, p199_28, p199_29, p199_30, p199_33, p199_34, p199_35, p199_38, p199_41, p199_43, p199_46, p199_47, p199_48, p199_52, p199_55, p199_56, p199_59, p199_60, p199_63, p199_64, p199_65, p199_68, p199_71, p199_72, p199_75, p199_78, p199_79, p199_80, p199_81, p199_84i, p199_84a, p199_85, p199_88, p199_89, p199_90, p199_93, p199_94, p199_96, p199_99, p199_100, p199_103, jwd_c, jwd_0, Nat.reduceLeDiff, Nat.reduceEqDiff, Nat.reduceAdd, Nat.reduceSub, Nat.reduceMul, Int.reduceAdd, Int.reduceSub, Int.reduceMul, Int.reduceNeg, Int.reduceEq, Int.reduceLT, Int.reduceLE, jq_ldi_i, jq_ldl_l, jq_lda_a, jq_inc_i, jq_gs_t, jq_gsb_t, jq_gb_t, jq_gr_2, jq_gr_4, jq_gw_2, jq_s_t, jq_b_t, jg_c, jg_n, js_c, js_n, jrm_c, jrm_n, j2_i, j2_l, j2_a, jq_c_i, jq_c_l, jq_c_0, jq_c_n, jwd_le, jw_c0, mS_I, mS_R, mS_J, mN_I, mN_R, mN_J, mR_I, mI_R, mJ_I, mJ_R, mI_J, mR_J, ↓reduceIte, decide_true, or_true, true_or, and_self, false_or, or_false, reduceCtorEq, Bool.false_eq_true, and_false, false_and, eq_self, true_and, and_true, zero_ne, ↓br_lt_t, ↓br_lt_f, ↓br_eq_t, ↓br_eq_f, ↓br_lz_t, ↓br_lz_f, ↓br_ez_t, ↓br_ez_f, ↓br_gz_t, ↓br_gz_f, jw_id, jin_t, jix_t, ↓ite_t, ↓ite_f, MS.a M4, MS.r4 M4, MS.b M4, MS.f0 M4, MS.f1 M4, MS.f2 M4, MS.f3 M4, MS.f4 M4, MS.f5 M4, MS.f6 M4, MS.f7 M4, MS.f8 M4, MS.f10 M4, MS.f12 M4, MS.f13 M4, MS.a M5, MS.r4 M5, MS.b M5, MS.f0 M5, MS.f1 M5, MS.f2 M5, MS.f3 M5, MS.f4 M5, MS.f5 M5, MS.f6 M5, MS.f7 M5, MS.f8 M5, MS.f10 M5, MS.f12 M5, MS.f13 M5, e5, k9]
  have eg : gCom T n H 4 p = .inl (tE T n p) := if_pos hf
  rw [eg] at M1
  obtain ⟨hj, h5⟩ := fo_4 hi hf
  have te := te_m (T := T) (n := n) (p := p) ⟨Nat.le_refl _, hp⟩
  obtain ⟨u, f, e, h2⟩ := mstp_lp (T := T) (n := n) (h := h) 9 (tE T n p) H u1 [] M1 hj (by omega) te.2 (Or.inl rfl)
  have x1 : rn 199 (21, [(0, jvr 238)], [], u1) = rn 199 (23, (0, jvr 238) :: (1, .inl 1) :: [], [], u1) := by
    rw [p199_21]
    simp (disch := omega) only [p199_0, p199_1, p199_2, p199_5, p199_8, p199_11, p199_12, p199_15, p199_16, p199_17, p199_18, p199_22, p199_24, p199_27, p199_28, p199_29, p199_30, p199_33, p199_34, p199_35, p199_38, p199_41, p199_43, p199_46, p199_47, p199_48, p199_51, p199_52, p199_55, p199_56, p199_59, p199_60, p199_63, p199_64, p199_65, p199_68, p199_71, p199_72, p199_75, p199_78, p199_79, p199_80, p199_81, p199_84i, p199_84a, p199_85, p199_88, p199_89, p199_90, p199_93, p199_94, p199_96, p199_99, p199_100, p199_103, jwd_c, jwd_0, Nat.reduceLeDiff, Nat.reduceEqDiff, Nat.reduceAdd, Nat.reduceSub, Nat.reduceMul, Int.reduceAdd, Int.reduceSub, Int.reduceMul, Int.reduceNeg, Int.reduceEq, Int.reduceLT, Int.reduceLE, jq_ldi_i, jq_ldl_l, jq_lda_a, jq_inc_i, jq_gs_t, jq_gsb_t, jq_gb_t, jq_gr_2, jq_gr_4, jq_gw_2, jq_s_t, jq_b_t, jg_c, jg_n, js_c, js_n, jrm_c, jrm_n, j2_i, j2_l, j2_a, jq_c_i, jq_c_l, jq_c_0, jq_c_n, jwd_le, jw_c0, mS_I, mS_R, mS_J, mN_I, mN_R, mN_J, mR_I, mI_R, mJ_I, mJ_R, mI_J, mR_J, ↓reduceIte, decide_true, or_true, true_or, and_self, false_or, or_false, reduceCtorEq, Bool.false_eq_true, and_false, false_and, eq_self, true_and, and_true, zero_ne, ↓br_lt_t, ↓br_lt_f, ↓br_eq_t, ↓br_eq_f, ↓br_lz_t, ↓br_lz_f, ↓br_ez_t, ↓br_ez_f, ↓br_gz_t, ↓br_gz_f, jw_id, jin_t, jix_t, ↓ite_t, ↓ite_f]
  have eG : gRd T n H 4 (tE T n p) = gStp T n 9 (tE T n p) H := rfl
  refine ⟨u, by rw [x1]; exact e, f1.ln.tr f, ?_⟩
  unfold ML
  rw [if_pos hf, eG]
  rcases h2 with ⟨q, g, M2⟩ | ⟨x, H2, g, M2, hh⟩
  · exact Or.inl ⟨q, hf, g, M2⟩
  · exact Or.inr ⟨x, H2, g, M2, hh⟩
end MLINE3
